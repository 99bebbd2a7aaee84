/-! ===== a run reads and writes only its own part of the heap ===== -/
def mx (P : Nat → Bool) (h g : Hp) : Hp := fun a => if P a = true then h a else g a
def okv (P : Nat → Bool) : Value → Bool
  | .ref k => P k || (decide (700 ≤ k) && decide (k < 709))
  | _ => true
def am (P : Nat → Bool) (g : Hp) : Act → Act
  | .inl (pc, ls, st, h) => .inl (pc, ls, st, mx P h g)
  | .inr r => .inr r
def okA (P : Nat → Bool) (h : Hp) : Act → Prop
  | .inl (_, ls, st, h') => ls.all (okv P) = true ∧ st.all (okv P) = true ∧ ∀ a, P a = false → h' a = h a
  | .inr (.inl none) => True
  | .inr (.inl (some v)) => okv P v = true
  | .inr (.inr (_, as, st)) => as.all (okv P) = true ∧ st.all (okv P) = true
def Clo (P : Nat → Bool) : Prop := ∀ k j q, P k = true → rf k j = some q → P q = true
theorem SL_lt : ∀ e ∈ SL, e.2.2.1 < 9 := by decide +kernel
section LOC
variable {P : Nat → Bool} {h g : Hp}
theorem okv_P {k : Nat} (h1 : okv P (.ref k) = true) (h2 : kd k < 90) : P k = true := by
  unfold okv at h1
  by_cases hk : 700 ≤ k ∧ k < 709
  · exfalso
    have : kd k = 99 := by
      obtain ⟨a, b⟩ := hk
      rcases (show k = 700 ∨ k = 701 ∨ k = 702 ∨ k = 703 ∨ k = 704 ∨ k = 705 ∨ k = 706 ∨ k = 707 ∨ k = 708 by omega) with rfl | rfl | rfl | rfl | rfl | rfl | rfl | rfl | rfl <;> rfl
    omega
  · simp only [Bool.or_eq_true, Bool.and_eq_true, decide_eq_true_eq] at h1
    rcases h1 with h1 | h1
    · exact h1
    · exact absurd h1 hk
theorem mx_at {k : Nat} (hk : P k = true) : mx P h g k = h k := by simp [mx, hk]
theorem mx_hw {k : Nat} {f : Nat → Int32} (hk : P k = true) : hw (mx P h g) k f = mx P (hw h k f) g := by
  funext a
  by_cases ha : a = k
  · subst ha; simp [hw, mx, hk]
  · simp [hw, mx, ha]
theorem mx_hu {k j : Nat} {v : Int32} (hk : P k = true) : hu (mx P h g) k j v = mx P (hu h k j v) g := by
  unfold hu
  rw [mx_at hk, mx_hw hk]
theorem hw_off {k : Nat} {f : Nat → Int32} (hk : P k = true) : ∀ a, P a = false → hw h k f a = h a := by
  intro a ha
  have : a ≠ k := fun e => by rw [e, hk] at ha; cases ha
  simp [hw, this]
theorem mx_vl {k j : Nat} (hk : P k = true) : vl (mx P h g) k j = vl h k j := by unfold vl; rw [mx_at hk]
theorem okv_vl (hcl : Clo P) {k j : Nat} (hk : P k = true) : okv P (vl h k j) = true := by
  unfold vl
  cases hr : rf k j with
  | none => rfl
  | some q => simp [okv, hcl k j q hk hr]
theorem all_set {p : Value → Bool} {ls : List Value} {i : Nat} {v : Value} (h1 : ls.all p = true) (h2 : p v = true) : (ls.set i v).all p = true := by
  rw [List.all_eq_true] at h1 ⊢
  intro x hx
  rcases List.mem_or_eq_of_mem_set hx with h | h
  · exact h1 x h
  · rw [h]; exact h2
theorem all_at {p : Value → Bool} {ls : List Value} {i : Nat} {v : Value} (h1 : ls.all p = true) (h2 : ls[i]? = some v) : p v = true := List.all_eq_true.mp h1 v (List.mem_of_getElem? h2)
theorem okv_str {q : Nat} {st : List Value} (hq : q < 9) (hst : st.all (okv P) = true) : (Value.ref (700 + q) :: st).all (okv P) = true := by
  have a1 : 700 ≤ 700 + q := by omega
  have a2 : 700 + q < 709 := by omega
  simp only [List.all_cons, okv, decide_eq_true a1, decide_eq_true a2, Bool.and_self, Bool.or_true, Bool.true_and]
  exact hst
set_option maxHeartbeats 8000000 in
set_option maxRecDepth 100000 in
theorem op_loc (hcl : Clo P) {y pc : Nat} {ls st : List Value} {ins : Instr} {len : Nat} (hls : ls.all (okv P) = true) (hst : st.all (okv P) = true) :
    op y pc ls st (mx P h g) ins len = (op y pc ls st h ins len).map (am P g) ∧ ∀ a, op y pc ls st h ins len = some a → okA P h a := by
  cases ins with
  | iconst n =>
    by_cases hl : len = 1
    · refine ⟨by simp only [op, if_pos hl, Option.bind_some]; rfl, fun a ha => ?_⟩
      simp only [op, if_pos hl, Option.bind_some] at ha
      cases ha
      exact ⟨hls, by simpa [okv] using hst, fun _ _ => rfl⟩
    · exact ⟨by simp only [op, if_neg hl, Option.map_none], fun a ha => by simp only [op, if_neg hl] at ha; cases ha⟩
  | bipush n =>
    by_cases hl : len = 2
    · refine ⟨by simp only [op, if_pos hl, Option.bind_some]; rfl, fun a ha => ?_⟩
      simp only [op, if_pos hl, Option.bind_some] at ha
      cases ha
      exact ⟨hls, by simpa [okv] using hst, fun _ _ => rfl⟩
    · exact ⟨by simp only [op, if_neg hl, Option.map_none], fun a ha => by simp only [op, if_neg hl] at ha; cases ha⟩
  | sipush n =>
    by_cases hl : len = 3
    · refine ⟨by simp only [op, if_pos hl, Option.bind_some]; rfl, fun a ha => ?_⟩
      simp only [op, if_pos hl, Option.bind_some] at ha
      cases ha
      exact ⟨hls, by simpa [okv] using hst, fun _ _ => rfl⟩
    · exact ⟨by simp only [op, if_neg hl, Option.map_none], fun a ha => by simp only [op, if_neg hl] at ha; cases ha⟩
  | iadd =>
    by_cases hl : len = 1
    · cases hp : p2 st with
      | none => exact ⟨by simp only [op, if_pos hl, hp, Option.bind_none, Option.map_none], fun a ha => by simp only [op, if_pos hl, hp, Option.bind_none] at ha; cases ha⟩
      | some q =>
        have hs := p2_e hp
        skip
        rw [hs] at hst
        clear hs
        refine ⟨by simp only [op, if_pos hl, hp, Option.bind_some]; rfl, fun a ha => ?_⟩
        simp only [op, if_pos hl, hp, Option.bind_some] at ha
        cases ha
        exact ⟨hls, by simp only [List.all_cons, Bool.and_eq_true, okv] at hst ⊢; simp_all, fun _ _ => rfl⟩
    · exact ⟨by simp only [op, if_neg hl, Option.map_none], fun a ha => by simp only [op, if_neg hl] at ha; cases ha⟩
  | isub =>
    by_cases hl : len = 1
    · cases hp : p2 st with
      | none => exact ⟨by simp only [op, if_pos hl, hp, Option.bind_none, Option.map_none], fun a ha => by simp only [op, if_pos hl, hp, Option.bind_none] at ha; cases ha⟩
      | some q =>
        have hs := p2_e hp
        skip
        rw [hs] at hst
        clear hs
        refine ⟨by simp only [op, if_pos hl, hp, Option.bind_some]; rfl, fun a ha => ?_⟩
        simp only [op, if_pos hl, hp, Option.bind_some] at ha
        cases ha
        exact ⟨hls, by simp only [List.all_cons, Bool.and_eq_true, okv] at hst ⊢; simp_all, fun _ _ => rfl⟩
    · exact ⟨by simp only [op, if_neg hl, Option.map_none], fun a ha => by simp only [op, if_neg hl] at ha; cases ha⟩
  | imul =>
    by_cases hl : len = 1
    · cases hp : p2 st with
      | none => exact ⟨by simp only [op, if_pos hl, hp, Option.bind_none, Option.map_none], fun a ha => by simp only [op, if_pos hl, hp, Option.bind_none] at ha; cases ha⟩
      | some q =>
        have hs := p2_e hp
        skip
        rw [hs] at hst
        clear hs
        refine ⟨by simp only [op, if_pos hl, hp, Option.bind_some]; rfl, fun a ha => ?_⟩
        simp only [op, if_pos hl, hp, Option.bind_some] at ha
        cases ha
        exact ⟨hls, by simp only [List.all_cons, Bool.and_eq_true, okv] at hst ⊢; simp_all, fun _ _ => rfl⟩
    · exact ⟨by simp only [op, if_neg hl, Option.map_none], fun a ha => by simp only [op, if_neg hl] at ha; cases ha⟩
  | iand =>
    by_cases hl : len = 1
    · cases hp : p2 st with
      | none => exact ⟨by simp only [op, if_pos hl, hp, Option.bind_none, Option.map_none], fun a ha => by simp only [op, if_pos hl, hp, Option.bind_none] at ha; cases ha⟩
      | some q =>
        have hs := p2_e hp
        skip
        rw [hs] at hst
        clear hs
        refine ⟨by simp only [op, if_pos hl, hp, Option.bind_some]; rfl, fun a ha => ?_⟩
        simp only [op, if_pos hl, hp, Option.bind_some] at ha
        cases ha
        exact ⟨hls, by simp only [List.all_cons, Bool.and_eq_true, okv] at hst ⊢; simp_all, fun _ _ => rfl⟩
    · exact ⟨by simp only [op, if_neg hl, Option.map_none], fun a ha => by simp only [op, if_neg hl] at ha; cases ha⟩
  | ixor =>
    by_cases hl : len = 1
    · cases hp : p2 st with
      | none => exact ⟨by simp only [op, if_pos hl, hp, Option.bind_none, Option.map_none], fun a ha => by simp only [op, if_pos hl, hp, Option.bind_none] at ha; cases ha⟩
      | some q =>
        have hs := p2_e hp
        skip
        rw [hs] at hst
        clear hs
        refine ⟨by simp only [op, if_pos hl, hp, Option.bind_some]; rfl, fun a ha => ?_⟩
        simp only [op, if_pos hl, hp, Option.bind_some] at ha
        cases ha
        exact ⟨hls, by simp only [List.all_cons, Bool.and_eq_true, okv] at hst ⊢; simp_all, fun _ _ => rfl⟩
    · exact ⟨by simp only [op, if_neg hl, Option.map_none], fun a ha => by simp only [op, if_neg hl] at ha; cases ha⟩
  | ishr =>
    by_cases hl : len = 1
    · cases hp : p2 st with
      | none => exact ⟨by simp only [op, if_pos hl, hp, Option.bind_none, Option.map_none], fun a ha => by simp only [op, if_pos hl, hp, Option.bind_none] at ha; cases ha⟩
      | some q =>
        have hs := p2_e hp
        skip
        rw [hs] at hst
        clear hs
        refine ⟨by simp only [op, if_pos hl, hp, Option.bind_some]; rfl, fun a ha => ?_⟩
        simp only [op, if_pos hl, hp, Option.bind_some] at ha
        cases ha
        exact ⟨hls, by simp only [List.all_cons, Bool.and_eq_true, okv] at hst ⊢; simp_all, fun _ _ => rfl⟩
    · exact ⟨by simp only [op, if_neg hl, Option.map_none], fun a ha => by simp only [op, if_neg hl] at ha; cases ha⟩
  | ineg =>
    by_cases hl : len = 1
    · cases hp : p1 st with
      | none => exact ⟨by simp only [op, if_pos hl, hp, Option.bind_none, Option.map_none], fun a ha => by simp only [op, if_pos hl, hp, Option.bind_none] at ha; cases ha⟩
      | some q =>
        have hs := p1_e hp
        skip
        rw [hs] at hst
        clear hs
        refine ⟨by simp only [op, if_pos hl, hp, Option.bind_some]; rfl, fun a ha => ?_⟩
        simp only [op, if_pos hl, hp, Option.bind_some] at ha
        cases ha
        exact ⟨hls, by simp only [List.all_cons, Bool.and_eq_true, okv] at hst ⊢; simp_all, fun _ _ => rfl⟩
    · exact ⟨by simp only [op, if_neg hl, Option.map_none], fun a ha => by simp only [op, if_neg hl] at ha; cases ha⟩
  | i2l =>
    by_cases hl : len = 1
    · cases hp : p1 st with
      | none => exact ⟨by simp only [op, if_pos hl, hp, Option.bind_none, Option.map_none], fun a ha => by simp only [op, if_pos hl, hp, Option.bind_none] at ha; cases ha⟩
      | some q =>
        have hs := p1_e hp
        skip
        rw [hs] at hst
        clear hs
        refine ⟨by simp only [op, if_pos hl, hp, Option.bind_some]; rfl, fun a ha => ?_⟩
        simp only [op, if_pos hl, hp, Option.bind_some] at ha
        cases ha
        exact ⟨hls, by simp only [List.all_cons, Bool.and_eq_true, okv] at hst ⊢; simp_all, fun _ _ => rfl⟩
    · exact ⟨by simp only [op, if_neg hl, Option.map_none], fun a ha => by simp only [op, if_neg hl] at ha; cases ha⟩
  | l2i =>
    by_cases hl : len = 1
    · cases hp : pl1 st with
      | none => exact ⟨by simp only [op, if_pos hl, hp, Option.bind_none, Option.map_none], fun a ha => by simp only [op, if_pos hl, hp, Option.bind_none] at ha; cases ha⟩
      | some q =>
        have hs := pl1_e hp
        skip
        rw [hs] at hst
        clear hs
        refine ⟨by simp only [op, if_pos hl, hp, Option.bind_some]; rfl, fun a ha => ?_⟩
        simp only [op, if_pos hl, hp, Option.bind_some] at ha
        cases ha
        exact ⟨hls, by simp only [List.all_cons, Bool.and_eq_true, okv] at hst ⊢; simp_all, fun _ _ => rfl⟩
    · exact ⟨by simp only [op, if_neg hl, Option.map_none], fun a ha => by simp only [op, if_neg hl] at ha; cases ha⟩
  | lmul =>
    by_cases hl : len = 1
    · cases hp : pl2 st with
      | none => exact ⟨by simp only [op, if_pos hl, hp, Option.bind_none, Option.map_none], fun a ha => by simp only [op, if_pos hl, hp, Option.bind_none] at ha; cases ha⟩
      | some q =>
        have hs := pl2_e hp
        skip
        rw [hs] at hst
        clear hs
        refine ⟨by simp only [op, if_pos hl, hp, Option.bind_some]; rfl, fun a ha => ?_⟩
        simp only [op, if_pos hl, hp, Option.bind_some] at ha
        cases ha
        exact ⟨hls, by simp only [List.all_cons, Bool.and_eq_true, okv] at hst ⊢; simp_all, fun _ _ => rfl⟩
    · exact ⟨by simp only [op, if_neg hl, Option.map_none], fun a ha => by simp only [op, if_neg hl] at ha; cases ha⟩
  | dup =>
    by_cases hl : len = 1
    · cases hp : pv1 st with
      | none => exact ⟨by simp only [op, if_pos hl, hp, Option.bind_none, Option.map_none], fun a ha => by simp only [op, if_pos hl, hp, Option.bind_none] at ha; cases ha⟩
      | some q =>
        have hs := pv1_e hp
        obtain ⟨hs, hv⟩ := hs
        rw [hs] at hst
        clear hs
        refine ⟨by simp only [op, if_pos hl, hp, Option.bind_some]; rfl, fun a ha => ?_⟩
        simp only [op, if_pos hl, hp, Option.bind_some] at ha
        cases ha
        exact ⟨hls, by simp only [List.all_cons, Bool.and_eq_true, okv] at hst ⊢; simp_all, fun _ _ => rfl⟩
    · exact ⟨by simp only [op, if_neg hl, Option.map_none], fun a ha => by simp only [op, if_neg hl] at ha; cases ha⟩
  | pop =>
    by_cases hl : len = 1
    · cases hp : pv1 st with
      | none => exact ⟨by simp only [op, if_pos hl, hp, Option.bind_none, Option.map_none], fun a ha => by simp only [op, if_pos hl, hp, Option.bind_none] at ha; cases ha⟩
      | some q =>
        have hs := pv1_e hp
        obtain ⟨hs, hv⟩ := hs
        rw [hs] at hst
        clear hs
        refine ⟨by simp only [op, if_pos hl, hp, Option.bind_some]; rfl, fun a ha => ?_⟩
        simp only [op, if_pos hl, hp, Option.bind_some] at ha
        cases ha
        exact ⟨hls, by simp only [List.all_cons, Bool.and_eq_true, okv] at hst ⊢; simp_all, fun _ _ => rfl⟩
    · exact ⟨by simp only [op, if_neg hl, Option.map_none], fun a ha => by simp only [op, if_neg hl] at ha; cases ha⟩
  | dup_x1 =>
    by_cases hl : len = 1
    · cases hp : pv2 st with
      | none => exact ⟨by simp only [op, if_pos hl, hp, Option.bind_none, Option.map_none], fun a ha => by simp only [op, if_pos hl, hp, Option.bind_none] at ha; cases ha⟩
      | some q =>
        have hs := pv2_e hp
        obtain ⟨hs, hv⟩ := hs
        rw [hs] at hst
        clear hs
        refine ⟨by simp only [op, if_pos hl, hp, Option.bind_some]; rfl, fun a ha => ?_⟩
        simp only [op, if_pos hl, hp, Option.bind_some] at ha
        cases ha
        exact ⟨hls, by simp only [List.all_cons, Bool.and_eq_true, okv] at hst ⊢; simp_all, fun _ _ => rfl⟩
    · exact ⟨by simp only [op, if_neg hl, Option.map_none], fun a ha => by simp only [op, if_neg hl] at ha; cases ha⟩
  | dup2 =>
    by_cases hl : len = 1
    · cases hp : pv2 st with
      | none => exact ⟨by simp only [op, if_pos hl, hp, Option.bind_none, Option.map_none], fun a ha => by simp only [op, if_pos hl, hp, Option.bind_none] at ha; cases ha⟩
      | some q =>
        have hs := pv2_e hp
        obtain ⟨hs, hv⟩ := hs
        rw [hs] at hst
        clear hs
        refine ⟨by simp only [op, if_pos hl, hp, Option.bind_some]; rfl, fun a ha => ?_⟩
        simp only [op, if_pos hl, hp, Option.bind_some] at ha
        cases ha
        exact ⟨hls, by simp only [List.all_cons, Bool.and_eq_true, okv] at hst ⊢; simp_all, fun _ _ => rfl⟩
    · exact ⟨by simp only [op, if_neg hl, Option.map_none], fun a ha => by simp only [op, if_neg hl] at ha; cases ha⟩
  | iload_n i =>
    by_cases hl : len = 1
    · cases hp : ldI ls i with
      | none => exact ⟨by simp only [op, if_pos hl, hp, Option.bind_none, Option.map_none], fun a ha => by simp only [op, if_pos hl, hp, Option.bind_none] at ha; cases ha⟩
      | some q =>
        have hv := all_at hls (ldI_e hp)
        refine ⟨by simp only [op, if_pos hl, hp, Option.bind_some]; rfl, fun a ha => ?_⟩
        simp only [op, if_pos hl, hp, Option.bind_some] at ha
        cases ha
        exact ⟨hls, by simp only [List.all_cons, Bool.and_eq_true]; exact ⟨hv, hst⟩, fun _ _ => rfl⟩
    · exact ⟨by simp only [op, if_neg hl, Option.map_none], fun a ha => by simp only [op, if_neg hl] at ha; cases ha⟩
  | aload_n i =>
    by_cases hl : len = 1
    · cases hp : ldA ls i with
      | none => exact ⟨by simp only [op, if_pos hl, hp, Option.bind_none, Option.map_none], fun a ha => by simp only [op, if_pos hl, hp, Option.bind_none] at ha; cases ha⟩
      | some q =>
        have hv := all_at hls (ldA_e hp)
        refine ⟨by simp only [op, if_pos hl, hp, Option.bind_some]; rfl, fun a ha => ?_⟩
        simp only [op, if_pos hl, hp, Option.bind_some] at ha
        cases ha
        exact ⟨hls, by simp only [List.all_cons, Bool.and_eq_true]; exact ⟨hv, hst⟩, fun _ _ => rfl⟩
    · exact ⟨by simp only [op, if_neg hl, Option.map_none], fun a ha => by simp only [op, if_neg hl] at ha; cases ha⟩
  | istore_n i =>
    by_cases hl : len = 1 ∧ (i : Nat) < mL y
    · cases hp : p1 st with
      | none => exact ⟨by simp only [op, if_pos hl, hp, Option.bind_none, Option.map_none], fun a ha => by simp only [op, if_pos hl, hp, Option.bind_none] at ha; cases ha⟩
      | some q =>
        have hs := p1_e hp
        skip
        rw [hs] at hst
        clear hs
        refine ⟨by simp only [op, if_pos hl, hp, Option.bind_some]; rfl, fun a ha => ?_⟩
        simp only [op, if_pos hl, hp, Option.bind_some] at ha
        cases ha
        exact ⟨by simp only [List.all_cons, Bool.and_eq_true] at hst; exact all_set hls hst.1, by simp only [List.all_cons, Bool.and_eq_true] at hst; exact hst.2, fun _ _ => rfl⟩
    · exact ⟨by simp only [op, if_neg hl, Option.map_none], fun a ha => by simp only [op, if_neg hl] at ha; cases ha⟩
  | astore_n i =>
    by_cases hl : len = 1 ∧ (i : Nat) < mL y
    · cases hp : pa st with
      | none => exact ⟨by simp only [op, if_pos hl, hp, Option.bind_none, Option.map_none], fun a ha => by simp only [op, if_pos hl, hp, Option.bind_none] at ha; cases ha⟩
      | some q =>
        have hs := pa_e hp
        skip
        rw [hs] at hst
        clear hs
        refine ⟨by simp only [op, if_pos hl, hp, Option.bind_some]; rfl, fun a ha => ?_⟩
        simp only [op, if_pos hl, hp, Option.bind_some] at ha
        cases ha
        exact ⟨by simp only [List.all_cons, Bool.and_eq_true] at hst; exact all_set hls hst.1, by simp only [List.all_cons, Bool.and_eq_true] at hst; exact hst.2, fun _ _ => rfl⟩
    · exact ⟨by simp only [op, if_neg hl, Option.map_none], fun a ha => by simp only [op, if_neg hl] at ha; cases ha⟩
  | iload i =>
    by_cases hl : len = 2
    · cases hp : ldI ls i with
      | none => exact ⟨by simp only [op, if_pos hl, hp, Option.bind_none, Option.map_none], fun a ha => by simp only [op, if_pos hl, hp, Option.bind_none] at ha; cases ha⟩
      | some q =>
        have hv := all_at hls (ldI_e hp)
        refine ⟨by simp only [op, if_pos hl, hp, Option.bind_some]; rfl, fun a ha => ?_⟩
        simp only [op, if_pos hl, hp, Option.bind_some] at ha
        cases ha
        exact ⟨hls, by simp only [List.all_cons, Bool.and_eq_true]; exact ⟨hv, hst⟩, fun _ _ => rfl⟩
    · exact ⟨by simp only [op, if_neg hl, Option.map_none], fun a ha => by simp only [op, if_neg hl] at ha; cases ha⟩
  | aload i =>
    by_cases hl : len = 2
    · cases hp : ldA ls i with
      | none => exact ⟨by simp only [op, if_pos hl, hp, Option.bind_none, Option.map_none], fun a ha => by simp only [op, if_pos hl, hp, Option.bind_none] at ha; cases ha⟩
      | some q =>
        have hv := all_at hls (ldA_e hp)
        refine ⟨by simp only [op, if_pos hl, hp, Option.bind_some]; rfl, fun a ha => ?_⟩
        simp only [op, if_pos hl, hp, Option.bind_some] at ha
        cases ha
        exact ⟨hls, by simp only [List.all_cons, Bool.and_eq_true]; exact ⟨hv, hst⟩, fun _ _ => rfl⟩
    · exact ⟨by simp only [op, if_neg hl, Option.map_none], fun a ha => by simp only [op, if_neg hl] at ha; cases ha⟩
  | istore i =>
    by_cases hl : len = 2 ∧ i < mL y
    · cases hp : p1 st with
      | none => exact ⟨by simp only [op, if_pos hl, hp, Option.bind_none, Option.map_none], fun a ha => by simp only [op, if_pos hl, hp, Option.bind_none] at ha; cases ha⟩
      | some q =>
        have hs := p1_e hp
        skip
        rw [hs] at hst
        clear hs
        refine ⟨by simp only [op, if_pos hl, hp, Option.bind_some]; rfl, fun a ha => ?_⟩
        simp only [op, if_pos hl, hp, Option.bind_some] at ha
        cases ha
        exact ⟨by simp only [List.all_cons, Bool.and_eq_true] at hst; exact all_set hls hst.1, by simp only [List.all_cons, Bool.and_eq_true] at hst; exact hst.2, fun _ _ => rfl⟩
    · exact ⟨by simp only [op, if_neg hl, Option.map_none], fun a ha => by simp only [op, if_neg hl] at ha; cases ha⟩
  | astore i =>
    by_cases hl : len = 2 ∧ i < mL y
    · cases hp : pa st with
      | none => exact ⟨by simp only [op, if_pos hl, hp, Option.bind_none, Option.map_none], fun a ha => by simp only [op, if_pos hl, hp, Option.bind_none] at ha; cases ha⟩
      | some q =>
        have hs := pa_e hp
        skip
        rw [hs] at hst
        clear hs
        refine ⟨by simp only [op, if_pos hl, hp, Option.bind_some]; rfl, fun a ha => ?_⟩
        simp only [op, if_pos hl, hp, Option.bind_some] at ha
        cases ha
        exact ⟨by simp only [List.all_cons, Bool.and_eq_true] at hst; exact all_set hls hst.1, by simp only [List.all_cons, Bool.and_eq_true] at hst; exact hst.2, fun _ _ => rfl⟩
    · exact ⟨by simp only [op, if_neg hl, Option.map_none], fun a ha => by simp only [op, if_neg hl] at ha; cases ha⟩
  | iinc i n =>
    by_cases hl : len = 3 ∧ i < mL y
    · cases hp : ldI ls i with
      | none => exact ⟨by simp only [op, if_pos hl, hp, Option.bind_none, Option.map_none], fun a ha => by simp only [op, if_pos hl, hp, Option.bind_none] at ha; cases ha⟩
      | some q =>
        refine ⟨by simp only [op, if_pos hl, hp, Option.bind_some]; rfl, fun a ha => ?_⟩
        simp only [op, if_pos hl, hp, Option.bind_some] at ha
        cases ha
        exact ⟨all_set hls rfl, hst, fun _ _ => rfl⟩
    · exact ⟨by simp only [op, if_neg hl, Option.map_none], fun a ha => by simp only [op, if_neg hl] at ha; cases ha⟩
  | idiv =>
    by_cases hl : len = 1
    · cases hp : p2 st with
      | none => exact ⟨by simp only [op, if_pos hl, hp, Option.bind_none, Option.map_none], fun a ha => by simp only [op, if_pos hl, hp, Option.bind_none] at ha; cases ha⟩
      | some q =>
        have hs := p2_e hp
        rw [hs] at hst
        clear hs
        by_cases hz : q.1 = 0
        · exact ⟨by simp only [op, if_pos hl, hp, Option.bind_some, if_pos hz, Option.map_none], fun a ha => by simp only [op, if_pos hl, hp, Option.bind_some, if_pos hz] at ha; cases ha⟩
        · refine ⟨by simp only [op, if_pos hl, hp, Option.bind_some, if_neg hz]; rfl, fun a ha => ?_⟩
          simp only [op, if_pos hl, hp, Option.bind_some, if_neg hz] at ha
          cases ha
          exact ⟨hls, by simp only [List.all_cons, Bool.and_eq_true, okv] at hst ⊢; simp_all, fun _ _ => rfl⟩
    · exact ⟨by simp only [op, if_neg hl, Option.map_none], fun a ha => by simp only [op, if_neg hl] at ha; cases ha⟩
  | irem =>
    by_cases hl : len = 1
    · cases hp : p2 st with
      | none => exact ⟨by simp only [op, if_pos hl, hp, Option.bind_none, Option.map_none], fun a ha => by simp only [op, if_pos hl, hp, Option.bind_none] at ha; cases ha⟩
      | some q =>
        have hs := p2_e hp
        rw [hs] at hst
        clear hs
        by_cases hz : q.1 = 0
        · exact ⟨by simp only [op, if_pos hl, hp, Option.bind_some, if_pos hz, Option.map_none], fun a ha => by simp only [op, if_pos hl, hp, Option.bind_some, if_pos hz] at ha; cases ha⟩
        · refine ⟨by simp only [op, if_pos hl, hp, Option.bind_some, if_neg hz]; rfl, fun a ha => ?_⟩
          simp only [op, if_pos hl, hp, Option.bind_some, if_neg hz] at ha
          cases ha
          exact ⟨hls, by simp only [List.all_cons, Bool.and_eq_true, okv] at hst ⊢; simp_all, fun _ _ => rfl⟩
    · exact ⟨by simp only [op, if_neg hl, Option.map_none], fun a ha => by simp only [op, if_neg hl] at ha; cases ha⟩
  | ldiv =>
    by_cases hl : len = 1
    · cases hp : pl2 st with
      | none => exact ⟨by simp only [op, if_pos hl, hp, Option.bind_none, Option.map_none], fun a ha => by simp only [op, if_pos hl, hp, Option.bind_none] at ha; cases ha⟩
      | some q =>
        have hs := pl2_e hp
        rw [hs] at hst
        clear hs
        by_cases hz : q.1 = 0
        · exact ⟨by simp only [op, if_pos hl, hp, Option.bind_some, if_pos hz, Option.map_none], fun a ha => by simp only [op, if_pos hl, hp, Option.bind_some, if_pos hz] at ha; cases ha⟩
        · refine ⟨by simp only [op, if_pos hl, hp, Option.bind_some, if_neg hz]; rfl, fun a ha => ?_⟩
          simp only [op, if_pos hl, hp, Option.bind_some, if_neg hz] at ha
          cases ha
          exact ⟨hls, by simp only [List.all_cons, Bool.and_eq_true, okv] at hst ⊢; simp_all, fun _ _ => rfl⟩
    · exact ⟨by simp only [op, if_neg hl, Option.map_none], fun a ha => by simp only [op, if_neg hl] at ha; cases ha⟩
  | ldc i =>
    by_cases hl : len = 2
    · cases hc : cr (oc y) i with
      | some v => 
        refine ⟨by simp only [op, if_pos hl, hc]; rfl, fun a ha => ?_⟩
        simp only [op, if_pos hl, hc] at ha
        cases ha
        exact ⟨hls, by simpa [okv] using hst, fun _ _ => rfl⟩
      | none =>
        cases hs : sr (oc y) i with
        | none => exact ⟨by simp only [op, if_pos hl, hc, hs, Option.bind_none, Option.map_none], fun a ha => by simp only [op, if_pos hl, hc, hs, Option.bind_none] at ha; cases ha⟩
        | some q =>
          have hq : q < 9 := by
            unfold sr at hs
            obtain ⟨e0, he, rfl⟩ := Option.map_eq_some_iff.mp hs
            exact SL_lt e0 (fnd he).1
          refine ⟨by simp only [op, if_pos hl, hc, hs, Option.bind_some]; rfl, fun a ha => ?_⟩
          simp only [op, if_pos hl, hc, hs, Option.bind_some] at ha
          cases ha
          exact ⟨hls, okv_str hq hst, fun _ _ => rfl⟩
    · exact ⟨by simp only [op, if_neg hl, Option.map_none], fun a ha => by simp only [op, if_neg hl] at ha; cases ha⟩
  | ldc2_w i =>
    by_cases hl : len = 3
    · cases hc : crl (oc y) i with
      | none => exact ⟨by simp only [op, if_pos hl, hc, Option.bind_none, Option.map_none], fun a ha => by simp only [op, if_pos hl, hc, Option.bind_none] at ha; cases ha⟩
      | some v => 
        refine ⟨by simp only [op, if_pos hl, hc, Option.bind_some]; rfl, fun a ha => ?_⟩
        simp only [op, if_pos hl, hc, Option.bind_some] at ha
        cases ha
        exact ⟨hls, by simpa [okv] using hst, fun _ _ => rfl⟩
    · exact ⟨by simp only [op, if_neg hl, Option.map_none], fun a ha => by simp only [op, if_neg hl] at ha; cases ha⟩
  | ifCond o off =>
    by_cases hl : len = 3
    · cases hp : p1 st with
      | none => exact ⟨by simp only [op, if_pos hl, hp, Option.bind_none, Option.bind_some, Option.map_none], fun a ha => by simp only [op, if_pos hl, hp, Option.bind_none, Option.bind_some] at ha; cases ha⟩
      | some q =>
        have hs := p1_e hp
        rw [hs] at hst
        clear hs
        have hst2 : (q.2).all (okv P) = true := by simp only [List.all_cons, Bool.and_eq_true] at hst; simp_all
        cases hj : jmp pc off with
        | none => exact ⟨by simp only [op, if_pos hl, hp, hj, Option.bind_none, Option.bind_some, Option.map_none], fun a ha => by simp only [op, if_pos hl, hp, hj, Option.bind_none, Option.bind_some] at ha; cases ha⟩
        | some t =>
          by_cases hc : c1 o q.1 = true
          · refine ⟨by simp only [op, if_pos hl, hp, hj, Option.bind_some, if_pos hc]; rfl, fun a ha => ?_⟩
            simp only [op, if_pos hl, hp, hj, Option.bind_some, if_pos hc] at ha
            cases ha
            exact ⟨hls, hst2, fun _ _ => rfl⟩
          · refine ⟨by simp only [op, if_pos hl, hp, hj, Option.bind_some, if_neg hc]; rfl, fun a ha => ?_⟩
            simp only [op, if_pos hl, hp, hj, Option.bind_some, if_neg hc] at ha
            cases ha
            exact ⟨hls, hst2, fun _ _ => rfl⟩
    · exact ⟨by simp only [op, if_neg hl, Option.map_none], fun a ha => by simp only [op, if_neg hl] at ha; cases ha⟩
  | if_icmp o off =>
    by_cases hl : len = 3
    · cases hp : p2 st with
      | none => exact ⟨by simp only [op, if_pos hl, hp, Option.bind_none, Option.bind_some, Option.map_none], fun a ha => by simp only [op, if_pos hl, hp, Option.bind_none, Option.bind_some] at ha; cases ha⟩
      | some q =>
        have hs := p2_e hp
        rw [hs] at hst
        clear hs
        have hst2 : (q.2.2).all (okv P) = true := by simp only [List.all_cons, Bool.and_eq_true] at hst; simp_all
        cases hj : jmp pc off with
        | none => exact ⟨by simp only [op, if_pos hl, hp, hj, Option.bind_none, Option.bind_some, Option.map_none], fun a ha => by simp only [op, if_pos hl, hp, hj, Option.bind_none, Option.bind_some] at ha; cases ha⟩
        | some t =>
          by_cases hc : c2 o q.2.1 q.1 = true
          · refine ⟨by simp only [op, if_pos hl, hp, hj, Option.bind_some, if_pos hc]; rfl, fun a ha => ?_⟩
            simp only [op, if_pos hl, hp, hj, Option.bind_some, if_pos hc] at ha
            cases ha
            exact ⟨hls, hst2, fun _ _ => rfl⟩
          · refine ⟨by simp only [op, if_pos hl, hp, hj, Option.bind_some, if_neg hc]; rfl, fun a ha => ?_⟩
            simp only [op, if_pos hl, hp, hj, Option.bind_some, if_neg hc] at ha
            cases ha
            exact ⟨hls, hst2, fun _ _ => rfl⟩
    · exact ⟨by simp only [op, if_neg hl, Option.map_none], fun a ha => by simp only [op, if_neg hl] at ha; cases ha⟩
  | goto off =>
    by_cases hl : len = 3
    · cases hj : jmp pc off with
      | none => exact ⟨by simp only [op, if_pos hl, hj, Option.bind_none, Option.bind_some, Option.map_none], fun a ha => by simp only [op, if_pos hl, hj, Option.bind_none, Option.bind_some] at ha; cases ha⟩
      | some t =>
        refine ⟨by simp only [op, if_pos hl, hj, Option.bind_some]; rfl, fun a ha => ?_⟩
        simp only [op, if_pos hl, hj, Option.bind_some] at ha
        cases ha
        exact ⟨hls, hst, fun _ _ => rfl⟩
    · exact ⟨by simp only [op, if_neg hl, Option.map_none], fun a ha => by simp only [op, if_neg hl] at ha; cases ha⟩
  | tableswitch d lo hi offs =>
    cases hp : p1 st with
    | none => exact ⟨by simp only [op, hp, Option.bind_none, Option.map_none], fun a ha => by simp only [op, hp, Option.bind_none] at ha; cases ha⟩
    | some q =>
      have hs := p1_e hp
      rw [hs] at hst
      clear hs
      have hst2 : (q.2).all (okv P) = true := by simp only [List.all_cons, Bool.and_eq_true] at hst; exact hst.2
      by_cases hx : q.1.toInt < lo ∨ hi < q.1.toInt
      · cases hj : jmp pc d with
        | none => exact ⟨by simp only [op, hp, Option.bind_some, if_pos hx, hj, Option.bind_none, Option.map_none], fun a ha => by simp only [op, hp, Option.bind_some, if_pos hx, hj, Option.bind_none] at ha; cases ha⟩
        | some t =>
          refine ⟨by simp only [op, hp, Option.bind_some, if_pos hx, hj]; rfl, fun a ha => ?_⟩
          simp only [op, hp, Option.bind_some, if_pos hx, hj] at ha
          cases ha
          exact ⟨hls, hst2, fun _ _ => rfl⟩
      · cases ho : offs[(q.1.toInt - lo).toNat]? with
        | none => exact ⟨by simp only [op, hp, Option.bind_some, if_neg hx, ho, Option.bind_none, Option.map_none], fun a ha => by simp only [op, hp, Option.bind_some, if_neg hx, ho, Option.bind_none] at ha; cases ha⟩
        | some o =>
          cases hj : jmp pc o with
          | none => exact ⟨by simp only [op, hp, Option.bind_some, if_neg hx, ho, hj, Option.bind_none, Option.map_none], fun a ha => by simp only [op, hp, Option.bind_some, if_neg hx, ho, hj, Option.bind_none] at ha; cases ha⟩
          | some t =>
            refine ⟨by simp only [op, hp, Option.bind_some, if_neg hx, ho, hj]; rfl, fun a ha => ?_⟩
            simp only [op, hp, Option.bind_some, if_neg hx, ho, hj] at ha
            cases ha
            exact ⟨hls, hst2, fun _ _ => rfl⟩
  | lookupswitch d ps =>
    cases hp : p1 st with
    | none => exact ⟨by simp only [op, hp, Option.bind_none, Option.map_none], fun a ha => by simp only [op, hp, Option.bind_none] at ha; cases ha⟩
    | some q =>
      have hs := p1_e hp
      rw [hs] at hst
      clear hs
      have hst2 : (q.2).all (okv P) = true := by simp only [List.all_cons, Bool.and_eq_true] at hst; exact hst.2
      by_cases hx : (ps.toList.zip (ps.toList.drop 1)).all (fun (a, next) => a.1 < next.1) = true
      · cases hj : jmp pc (Op.lookupswitch.offset ps.toList d q.1.toInt) with
        | none => exact ⟨by simp only [op, hp, Option.bind_some, if_pos hx, hj, Option.bind_none, Option.map_none], fun a ha => by simp only [op, hp, Option.bind_some, if_pos hx, hj, Option.bind_none] at ha; cases ha⟩
        | some t =>
          refine ⟨by simp only [op, hp, Option.bind_some, if_pos hx, hj]; rfl, fun a ha => ?_⟩
          simp only [op, hp, Option.bind_some, if_pos hx, hj] at ha
          cases ha
          exact ⟨hls, hst2, fun _ _ => rfl⟩
      · exact ⟨by simp only [op, hp, Option.bind_some, if_neg hx, Option.map_none], fun a ha => by simp only [op, hp, Option.bind_some, if_neg hx] at ha; cases ha⟩
  | getfield i =>
    by_cases hl : len = 3
    · cases hp : pa st with
      | none => exact ⟨by simp only [op, if_pos hl, hp, Option.bind_none, Option.bind_some, Option.map_none], fun a ha => by simp only [op, if_pos hl, hp, Option.bind_none, Option.bind_some] at ha; cases ha⟩
      | some q =>
        have hs := pa_e hp
        rw [hs] at hst
        clear hs
        have hk : okv P (.ref q.1) = true := by simp only [List.all_cons, Bool.and_eq_true] at hst; simp_all
        have hst2 : (q.2).all (okv P) = true := by simp only [List.all_cons, Bool.and_eq_true] at hst; simp_all
        cases hf : fr (oc y) i with
        | none => exact ⟨by simp only [op, if_pos hl, hp, hf, Option.bind_none, Option.bind_some, Option.map_none], fun a ha => by simp only [op, if_pos hl, hp, hf, Option.bind_none, Option.bind_some] at ha; cases ha⟩
        | some f =>
        have hci := (fr_spec (ci := f.1) (j := f.2) hf).2.2
        by_cases hc : kd q.1 = f.1
        · have hP : P q.1 = true := okv_P hk (by omega)
          refine ⟨by simp only [op, if_pos hl, hp, hf, Option.bind_some, if_pos hc, mx_vl hP]; rfl, fun a ha => ?_⟩
          simp only [op, if_pos hl, hp, hf, Option.bind_some, if_pos hc] at ha
          cases ha
          exact ⟨hls, by simp only [List.all_cons, Bool.and_eq_true]; exact ⟨okv_vl hcl hP, hst2⟩, fun _ _ => rfl⟩
        · exact ⟨by simp only [op, if_pos hl, hp, hf, Option.bind_some, if_neg hc, Option.map_none], fun a ha => by simp only [op, if_pos hl, hp, hf, Option.bind_some, if_neg hc] at ha; cases ha⟩
    · exact ⟨by simp only [op, if_neg hl, Option.map_none], fun a ha => by simp only [op, if_neg hl] at ha; cases ha⟩
  | putfield i =>
    by_cases hl : len = 3
    · cases hp : pia st with
      | none => exact ⟨by simp only [op, if_pos hl, hp, Option.bind_none, Option.bind_some, Option.map_none], fun a ha => by simp only [op, if_pos hl, hp, Option.bind_none, Option.bind_some] at ha; cases ha⟩
      | some q =>
        have hs := pia_e hp
        rw [hs] at hst
        clear hs
        have hk : okv P (.ref q.2.1) = true := by simp only [List.all_cons, Bool.and_eq_true] at hst; simp_all
        have hst2 : (q.2.2).all (okv P) = true := by simp only [List.all_cons, Bool.and_eq_true] at hst; simp_all
        cases hf : fr (oc y) i with
        | none => exact ⟨by simp only [op, if_pos hl, hp, hf, Option.bind_none, Option.bind_some, Option.map_none], fun a ha => by simp only [op, if_pos hl, hp, hf, Option.bind_none, Option.bind_some] at ha; cases ha⟩
        | some f =>
        have hci := (fr_spec (ci := f.1) (j := f.2) hf).2.2
        by_cases hc : kd q.2.1 = f.1 ∧ (ft f.1 f.2 = 0 ∨ (ft f.1 f.2 = 1 ∧ (q.1 = 0 ∨ q.1 = 1)))
        · have hP : P q.2.1 = true := okv_P hk (by have := hc.1; omega)
          refine ⟨by simp only [op, if_pos hl, hp, hf, Option.bind_some, if_pos hc, mx_hu hP]; rfl, fun a ha => ?_⟩
          simp only [op, if_pos hl, hp, hf, Option.bind_some, if_pos hc] at ha
          cases ha
          exact ⟨hls, hst2, hw_off hP⟩
        · exact ⟨by simp only [op, if_pos hl, hp, hf, Option.bind_some, if_neg hc, Option.map_none], fun a ha => by simp only [op, if_pos hl, hp, hf, Option.bind_some, if_neg hc] at ha; cases ha⟩
    · exact ⟨by simp only [op, if_neg hl, Option.map_none], fun a ha => by simp only [op, if_neg hl] at ha; cases ha⟩
  | iaload =>
    by_cases hl : len = 1
    · cases hp : pia st with
      | none => exact ⟨by simp only [op, if_pos hl, hp, Option.bind_none, Option.bind_some, Option.map_none], fun a ha => by simp only [op, if_pos hl, hp, Option.bind_none, Option.bind_some] at ha; cases ha⟩
      | some q =>
        have hs := pia_e hp
        rw [hs] at hst
        clear hs
        have hk : okv P (.ref q.2.1) = true := by simp only [List.all_cons, Bool.and_eq_true] at hst; simp_all
        have hst2 : (q.2.2).all (okv P) = true := by simp only [List.all_cons, Bool.and_eq_true] at hst; simp_all
        by_cases hc : kd q.2.1 = 9 ∧ q.1.toNatClampNeg < ln q.2.1 ∧ 0 ≤ q.1
        · have hP : P q.2.1 = true := okv_P hk (by have := hc.1; omega)
          refine ⟨by simp only [op, if_pos hl, hp, Option.bind_some, if_pos hc, mx_at hP]; rfl, fun a ha => ?_⟩
          simp only [op, if_pos hl, hp, Option.bind_some, if_pos hc] at ha
          cases ha
          exact ⟨hls, by simp only [List.all_cons, Bool.and_eq_true]; exact ⟨rfl, hst2⟩, fun _ _ => rfl⟩
        · exact ⟨by simp only [op, if_pos hl, hp, Option.bind_some, if_neg hc, Option.map_none], fun a ha => by simp only [op, if_pos hl, hp, Option.bind_some, if_neg hc] at ha; cases ha⟩
    · exact ⟨by simp only [op, if_neg hl, Option.map_none], fun a ha => by simp only [op, if_neg hl] at ha; cases ha⟩
  | baload =>
    by_cases hl : len = 1
    · cases hp : pia st with
      | none => exact ⟨by simp only [op, if_pos hl, hp, Option.bind_none, Option.bind_some, Option.map_none], fun a ha => by simp only [op, if_pos hl, hp, Option.bind_none, Option.bind_some] at ha; cases ha⟩
      | some q =>
        have hs := pia_e hp
        rw [hs] at hst
        clear hs
        have hk : okv P (.ref q.2.1) = true := by simp only [List.all_cons, Bool.and_eq_true] at hst; simp_all
        have hst2 : (q.2.2).all (okv P) = true := by simp only [List.all_cons, Bool.and_eq_true] at hst; simp_all
        by_cases hc : kd q.2.1 = 10 ∧ q.1.toNatClampNeg < ln q.2.1 ∧ 0 ≤ q.1
        · have hP : P q.2.1 = true := okv_P hk (by have := hc.1; omega)
          refine ⟨by simp only [op, if_pos hl, hp, Option.bind_some, if_pos hc, mx_at hP]; rfl, fun a ha => ?_⟩
          simp only [op, if_pos hl, hp, Option.bind_some, if_pos hc] at ha
          cases ha
          exact ⟨hls, by simp only [List.all_cons, Bool.and_eq_true]; exact ⟨rfl, hst2⟩, fun _ _ => rfl⟩
        · exact ⟨by simp only [op, if_pos hl, hp, Option.bind_some, if_neg hc, Option.map_none], fun a ha => by simp only [op, if_pos hl, hp, Option.bind_some, if_neg hc] at ha; cases ha⟩
    · exact ⟨by simp only [op, if_neg hl, Option.map_none], fun a ha => by simp only [op, if_neg hl] at ha; cases ha⟩
  | aaload =>
    by_cases hl : len = 1
    · cases hp : pia st with
      | none => exact ⟨by simp only [op, if_pos hl, hp, Option.bind_none, Option.bind_some, Option.map_none], fun a ha => by simp only [op, if_pos hl, hp, Option.bind_none, Option.bind_some] at ha; cases ha⟩
      | some q =>
        have hs := pia_e hp
        rw [hs] at hst
        clear hs
        have hk : okv P (.ref q.2.1) = true := by simp only [List.all_cons, Bool.and_eq_true] at hst; simp_all
        have hst2 : (q.2.2).all (okv P) = true := by simp only [List.all_cons, Bool.and_eq_true] at hst; simp_all
        by_cases hc : (11 ≤ kd q.2.1 ∧ kd q.2.1 ≤ 14) ∧ q.1.toNatClampNeg < ln q.2.1 ∧ 0 ≤ q.1
        · have hP : P q.2.1 = true := okv_P hk (by have := hc.1; omega)
          cases hr : rf q.2.1 q.1.toNatClampNeg with
          | none => exact ⟨by simp only [op, if_pos hl, hp, Option.bind_some, if_pos hc, hr, Option.bind_none, Option.map_none], fun a ha => by simp only [op, if_pos hl, hp, Option.bind_some, if_pos hc, hr, Option.bind_none] at ha; cases ha⟩
          | some z =>
            refine ⟨by simp only [op, if_pos hl, hp, Option.bind_some, if_pos hc, hr]; rfl, fun a ha => ?_⟩
            simp only [op, if_pos hl, hp, Option.bind_some, if_pos hc, hr] at ha
            cases ha
            exact ⟨hls, by simp only [List.all_cons, Bool.and_eq_true]; exact ⟨by simp [okv, hcl _ _ _ hP hr], hst2⟩, fun _ _ => rfl⟩
        · exact ⟨by simp only [op, if_pos hl, hp, Option.bind_some, if_neg hc, Option.map_none], fun a ha => by simp only [op, if_pos hl, hp, Option.bind_some, if_neg hc] at ha; cases ha⟩
    · exact ⟨by simp only [op, if_neg hl, Option.map_none], fun a ha => by simp only [op, if_neg hl] at ha; cases ha⟩
  | iastore =>
    by_cases hl : len = 1
    · cases hp : piia st with
      | none => exact ⟨by simp only [op, if_pos hl, hp, Option.bind_none, Option.bind_some, Option.map_none], fun a ha => by simp only [op, if_pos hl, hp, Option.bind_none, Option.bind_some] at ha; cases ha⟩
      | some q =>
        have hs := piia_e hp
        rw [hs] at hst
        clear hs
        have hk : okv P (.ref q.2.2.1) = true := by simp only [List.all_cons, Bool.and_eq_true] at hst; simp_all
        have hst2 : (q.2.2.2).all (okv P) = true := by simp only [List.all_cons, Bool.and_eq_true] at hst; simp_all
        by_cases hc : kd q.2.2.1 = 9 ∧ q.2.1.toNatClampNeg < ln q.2.2.1 ∧ 0 ≤ q.2.1
        · have hP : P q.2.2.1 = true := okv_P hk (by have := hc.1; omega)
          refine ⟨by simp only [op, if_pos hl, hp, Option.bind_some, if_pos hc, mx_hu hP]; rfl, fun a ha => ?_⟩
          simp only [op, if_pos hl, hp, Option.bind_some, if_pos hc] at ha
          cases ha
          exact ⟨hls, hst2, hw_off hP⟩
        · exact ⟨by simp only [op, if_pos hl, hp, Option.bind_some, if_neg hc, Option.map_none], fun a ha => by simp only [op, if_pos hl, hp, Option.bind_some, if_neg hc] at ha; cases ha⟩
    · exact ⟨by simp only [op, if_neg hl, Option.map_none], fun a ha => by simp only [op, if_neg hl] at ha; cases ha⟩
  | bastore =>
    by_cases hl : len = 1
    · cases hp : piia st with
      | none => exact ⟨by simp only [op, if_pos hl, hp, Option.bind_none, Option.bind_some, Option.map_none], fun a ha => by simp only [op, if_pos hl, hp, Option.bind_none, Option.bind_some] at ha; cases ha⟩
      | some q =>
        have hs := piia_e hp
        rw [hs] at hst
        clear hs
        have hk : okv P (.ref q.2.2.1) = true := by simp only [List.all_cons, Bool.and_eq_true] at hst; simp_all
        have hst2 : (q.2.2.2).all (okv P) = true := by simp only [List.all_cons, Bool.and_eq_true] at hst; simp_all
        by_cases hc : (kd q.2.2.1 = 10 ∧ q.2.1.toNatClampNeg < ln q.2.2.1 ∧ 0 ≤ q.2.1) ∧ (q.1 = 0 ∨ q.1 = 1)
        · have hP : P q.2.2.1 = true := okv_P hk (by have := hc.1.1; omega)
          refine ⟨by simp only [op, if_pos hl, hp, Option.bind_some, if_pos hc, mx_hu hP]; rfl, fun a ha => ?_⟩
          simp only [op, if_pos hl, hp, Option.bind_some, if_pos hc] at ha
          cases ha
          exact ⟨hls, hst2, hw_off hP⟩
        · exact ⟨by simp only [op, if_pos hl, hp, Option.bind_some, if_neg hc, Option.map_none], fun a ha => by simp only [op, if_pos hl, hp, Option.bind_some, if_neg hc] at ha; cases ha⟩
    · exact ⟨by simp only [op, if_neg hl, Option.map_none], fun a ha => by simp only [op, if_neg hl] at ha; cases ha⟩
  | arraylength =>
    by_cases hl : len = 1
    · cases hp : pa st with
      | none => exact ⟨by simp only [op, if_pos hl, hp, Option.bind_none, Option.bind_some, Option.map_none], fun a ha => by simp only [op, if_pos hl, hp, Option.bind_none, Option.bind_some] at ha; cases ha⟩
      | some q =>
        have hs := pa_e hp
        rw [hs] at hst
        clear hs
        have hk : okv P (.ref q.1) = true := by simp only [List.all_cons, Bool.and_eq_true] at hst; simp_all
        have hst2 : (q.2).all (okv P) = true := by simp only [List.all_cons, Bool.and_eq_true] at hst; simp_all
        by_cases hc : 9 ≤ kd q.1 ∧ kd q.1 ≤ 10
        · have hP : P q.1 = true := okv_P hk (by omega)
          refine ⟨by simp only [op, if_pos hl, hp, Option.bind_some, if_pos hc]; rfl, fun a ha => ?_⟩
          simp only [op, if_pos hl, hp, Option.bind_some, if_pos hc] at ha
          cases ha
          exact ⟨hls, by simp only [List.all_cons, Bool.and_eq_true]; exact ⟨rfl, hst2⟩, fun _ _ => rfl⟩
        · exact ⟨by simp only [op, if_pos hl, hp, Option.bind_some, if_neg hc, Option.map_none], fun a ha => by simp only [op, if_pos hl, hp, Option.bind_some, if_neg hc] at ha; cases ha⟩
    · exact ⟨by simp only [op, if_neg hl, Option.map_none], fun a ha => by simp only [op, if_neg hl] at ha; cases ha⟩
  | invokevirtual i =>
    by_cases hl : len = 3
    · cases hm : mr (oc y) i with
      | some y' =>
        cases hp : pn (nP y') st with
        | none => exact ⟨by simp only [op, if_pos hl, hm, hp, Option.bind_none, Option.bind_some, Option.map_none], fun a ha => by simp only [op, if_pos hl, hm, hp, Option.bind_none, Option.bind_some] at ha; cases ha⟩
        | some q =>
          have hs := (pn_e hp).1
          rw [hs] at hst
          clear hs
          cases hr : pa q.2 with
          | none => exact ⟨by simp only [op, if_pos hl, hm, hp, hr, Option.bind_none, Option.bind_some, Option.map_none], fun a ha => by simp only [op, if_pos hl, hm, hp, hr, Option.bind_none, Option.bind_some] at ha; cases ha⟩
          | some r =>
            rw [pa_e hr] at hst
            by_cases hc : iS y' = false ∧ kd r.1 = oc y' ∧ oc y' < 9 ∧ r.2.length ≤ 4 ∧ (rF y' + 1 ≤ rF y ∧ 8 + (mL y' + 11) + rL y' ≤ rL y)
            · refine ⟨by simp only [op, if_pos hl, hm, hp, hr, Option.bind_some, if_pos hc]; rfl, fun a ha => ?_⟩
              simp only [op, if_pos hl, hm, hp, hr, Option.bind_some, if_pos hc] at ha
              cases ha
              simp only [List.all_append, List.all_reverse, List.all_cons, Bool.and_eq_true] at hst
              exact ⟨by simp only [List.all_cons, Bool.and_eq_true]; exact ⟨hst.2.1, hst.1⟩, hst.2.2⟩
            · exact ⟨by simp only [op, if_pos hl, hm, hp, hr, Option.bind_some, if_neg hc, Option.map_none], fun a ha => by simp only [op, if_pos hl, hm, hp, hr, Option.bind_some, if_neg hc] at ha; cases ha⟩
      | none =>
        cases hz : pr (oc y) i with
        | none => exact ⟨by simp only [op, if_pos hl, hm, hz, Option.bind_none, Option.bind_some, Option.map_none], fun a ha => by simp only [op, if_pos hl, hm, hz, Option.bind_none, Option.bind_some] at ha; cases ha⟩
        | some z =>
          by_cases h0 : z = 0
          · cases hp : pa st with
            | none => exact ⟨by simp only [op, if_pos hl, hm, hz, hp, Option.bind_some, if_pos h0, Option.bind_none, Option.map_none], fun a ha => by simp only [op, if_pos hl, hm, hz, hp, Option.bind_some, if_pos h0, Option.bind_none] at ha; cases ha⟩
            | some q =>
              rw [pa_e hp] at hst
              by_cases hc : 700 ≤ q.1 ∧ q.1 < 709 ∧ q.2.length ≤ 4 ∧ (2 ≤ rF y ∧ 40 ≤ rL y)
              · refine ⟨by simp only [op, if_pos hl, hm, hz, hp, Option.bind_some, if_pos h0, if_pos hc]; rfl, fun a ha => ?_⟩
                simp only [op, if_pos hl, hm, hz, hp, Option.bind_some, if_pos h0, if_pos hc] at ha
                cases ha
                simp only [List.all_cons, Bool.and_eq_true] at hst
                exact ⟨hls, by simp only [List.all_cons, Bool.and_eq_true]; exact ⟨rfl, hst.2⟩, fun _ _ => rfl⟩
              · exact ⟨by simp only [op, if_pos hl, hm, hz, hp, Option.bind_some, if_pos h0, if_neg hc, Option.map_none], fun a ha => by simp only [op, if_pos hl, hm, hz, hp, Option.bind_some, if_pos h0, if_neg hc] at ha; cases ha⟩
          · by_cases h1 : z = 1
            · cases hp : pia st with
              | none => exact ⟨by simp only [op, if_pos hl, hm, hz, hp, Option.bind_some, if_neg h0, if_pos h1, Option.bind_none, Option.map_none], fun a ha => by simp only [op, if_pos hl, hm, hz, hp, Option.bind_some, if_neg h0, if_pos h1, Option.bind_none] at ha; cases ha⟩
              | some q =>
                rw [pia_e hp] at hst
                by_cases hc : 700 ≤ q.2.1 ∧ q.2.1 < 709 ∧ (q.1.toNatClampNeg < sLen.getD (q.2.1 - 700) 0 ∧ 0 ≤ q.1) ∧ q.2.2.length ≤ 4 ∧ (4 ≤ rF y ∧ 85 ≤ rL y)
                · refine ⟨by simp only [op, if_pos hl, hm, hz, hp, Option.bind_some, if_neg h0, if_pos h1, if_pos hc]; rfl, fun a ha => ?_⟩
                  simp only [op, if_pos hl, hm, hz, hp, Option.bind_some, if_neg h0, if_pos h1, if_pos hc] at ha
                  cases ha
                  simp only [List.all_cons, Bool.and_eq_true] at hst
                  exact ⟨hls, by simp only [List.all_cons, Bool.and_eq_true]; exact ⟨rfl, hst.2.2⟩, fun _ _ => rfl⟩
                · exact ⟨by simp only [op, if_pos hl, hm, hz, hp, Option.bind_some, if_neg h0, if_pos h1, if_neg hc, Option.map_none], fun a ha => by simp only [op, if_pos hl, hm, hz, hp, Option.bind_some, if_neg h0, if_pos h1, if_neg hc] at ha; cases ha⟩
            · exact ⟨by simp only [op, if_pos hl, hm, hz, Option.bind_some, if_neg h0, if_neg h1, Option.map_none], fun a ha => by simp only [op, if_pos hl, hm, hz, Option.bind_some, if_neg h0, if_neg h1] at ha; cases ha⟩
    · exact ⟨by simp only [op, if_neg hl, Option.map_none], fun a ha => by simp only [op, if_neg hl] at ha; cases ha⟩
  | invokestatic i =>
    by_cases hl : len = 3
    · cases hm : mr (oc y) i with
      | some y' =>
        cases hp : pn (nP y') st with
        | none => exact ⟨by simp only [op, if_pos hl, hm, hp, Option.bind_none, Option.bind_some, Option.map_none], fun a ha => by simp only [op, if_pos hl, hm, hp, Option.bind_none, Option.bind_some] at ha; cases ha⟩
        | some q =>
          have hs := (pn_e hp).1
          rw [hs] at hst
          clear hs
          by_cases hc : iS y' = true ∧ q.2.length ≤ 4 ∧ (rF y' + 1 ≤ rF y ∧ 8 + (mL y' + 11) + rL y' ≤ rL y)
          · refine ⟨by simp only [op, if_pos hl, hm, hp, Option.bind_some, if_pos hc]; rfl, fun a ha => ?_⟩
            simp only [op, if_pos hl, hm, hp, Option.bind_some, if_pos hc] at ha
            cases ha
            simp only [List.all_append, List.all_reverse, Bool.and_eq_true] at hst
            exact hst
          · exact ⟨by simp only [op, if_pos hl, hm, hp, Option.bind_some, if_neg hc, Option.map_none], fun a ha => by simp only [op, if_pos hl, hm, hp, Option.bind_some, if_neg hc] at ha; cases ha⟩
      | none =>
        cases hz : pr (oc y) i with
        | none => exact ⟨by simp only [op, if_pos hl, hm, hz, Option.bind_none, Option.bind_some, Option.map_none], fun a ha => by simp only [op, if_pos hl, hm, hz, Option.bind_none, Option.bind_some] at ha; cases ha⟩
        | some z =>
          by_cases h0 : z = 2
          · cases hp : pcp st with
            | none => exact ⟨by simp only [op, if_pos hl, hm, hz, hp, Option.bind_some, if_pos h0, Option.bind_none, Option.map_none], fun a ha => by simp only [op, if_pos hl, hm, hz, hp, Option.bind_some, if_pos h0, Option.bind_none] at ha; cases ha⟩
            | some q =>
              rw [pcp_e hp] at hst
              simp only [List.all_cons, Bool.and_eq_true] at hst
              by_cases hc : (kd q.2.2.2.2.1 = 9 ∧ kd q.2.2.1 = 9) ∧ (¬ q.2.2.2.1 < 0 ∧ ¬ q.2.1 < 0 ∧ ¬ q.1 < 0) ∧ (q.2.2.2.1.toNatClampNeg + q.1.toNatClampNeg ≤ ln q.2.2.2.2.1 ∧ q.2.1.toNatClampNeg + q.1.toNatClampNeg ≤ ln q.2.2.1) ∧ q.2.2.2.2.2.length ≤ 4 ∧ (1 ≤ rF y ∧ 26 ≤ rL y)
              · have hP0 : P q.2.2.2.2.1 = true := okv_P hst.2.2.2.2.1 (by have := hc.1.1; omega)
                have hP1 : P q.2.2.1 = true := okv_P hst.2.2.1 (by have := hc.1.2; omega)
                refine ⟨by simp only [op, if_pos hl, hm, hz, hp, Option.bind_some, if_pos h0, if_pos hc, mx_at hP0, mx_at hP1, mx_hw hP1]; rfl, fun a ha => ?_⟩
                simp only [op, if_pos hl, hm, hz, hp, Option.bind_some, if_pos h0, if_pos hc] at ha
                cases ha
                exact ⟨hls, hst.2.2.2.2.2, hw_off hP1⟩
              · exact ⟨by simp only [op, if_pos hl, hm, hz, hp, Option.bind_some, if_pos h0, if_neg hc, Option.map_none], fun a ha => by simp only [op, if_pos hl, hm, hz, hp, Option.bind_some, if_pos h0, if_neg hc] at ha; cases ha⟩
          · exact ⟨by simp only [op, if_pos hl, hm, hz, Option.bind_some, if_neg h0, Option.map_none], fun a ha => by simp only [op, if_pos hl, hm, hz, Option.bind_some, if_neg h0] at ha; cases ha⟩
    · exact ⟨by simp only [op, if_neg hl, Option.map_none], fun a ha => by simp only [op, if_neg hl] at ha; cases ha⟩
  | ireturn =>
    by_cases hl : len = 1
    · simp only [op, if_pos hl]
      split
      · split
        · exact ⟨rfl, fun a ha => by cases ha; exact rfl⟩
        · exact ⟨rfl, fun a ha => by cases ha⟩
      · exact ⟨rfl, fun a ha => by cases ha⟩
    · exact ⟨by simp only [op, if_neg hl, Option.map_none], fun a ha => by simp only [op, if_neg hl] at ha; cases ha⟩
  | return_ =>
    by_cases hl : len = 1
    · simp only [op, if_pos hl]
      split
      · split
        · exact ⟨rfl, fun a ha => by cases ha; exact trivial⟩
        · exact ⟨rfl, fun a ha => by cases ha⟩
      · exact ⟨rfl, fun a ha => by cases ha⟩
    · exact ⟨by simp only [op, if_neg hl, Option.map_none], fun a ha => by simp only [op, if_neg hl] at ha; cases ha⟩
  | areturn =>
    by_cases hl : len = 1
    · simp only [op, if_pos hl]
      split
      · split
        · exact ⟨rfl, fun a ha => by cases ha; simp only [List.all_cons, Bool.and_eq_true] at hst; exact hst.1⟩
        · exact ⟨rfl, fun a ha => by cases ha⟩
      · exact ⟨rfl, fun a ha => by cases ha⟩
    · exact ⟨by simp only [op, if_neg hl, Option.map_none], fun a ha => by simp only [op, if_neg hl] at ha; cases ha⟩
  | _ => exact ⟨rfl, fun a ha => by cases ha⟩
theorem exec_loc (hcl : Clo P) : ∀ (n y pc : Nat) (ls st : List Value) (h : Hp) (r : Option Value) (h' : Hp), ls.all (okv P) = true → st.all (okv P) = true → exec n y pc ls st h = some (r, h') →
    exec n y pc ls st (mx P h g) = some (r, mx P h' g) ∧ (∀ a, P a = false → h' a = h a) ∧ ∀ v, r = some v → okv P v = true := by
  intro n
  induction n with
  | zero => intro y pc ls st h r h' _ _ he; cases he
  | succ n ih =>
    intro y pc ls st h r h' hls hst he
    have he : stepF (exec n) y pc ls st h = some (r, h') := he
    show stepF (exec n) y pc ls st (mx P h g) = _ ∧ _
    unfold stepF at he ⊢
    cases hdec : decode (cd y) pc with
    | error x => rw [hdec] at he; cases he
    | ok q =>
      obtain ⟨ins, len⟩ := q
      rw [hdec] at he
      obtain ⟨e1, e2⟩ := op_loc (g := g) (h := h) hcl (y := y) (pc := pc) (ins := ins) (len := len) hls hst
      cases hop : op y pc ls st h ins len with
      | none => simp only [hop] at he; cases he
      | some a =>
        have oka := e2 a hop
        rw [hop] at e1
        simp only [hop] at he
        simp only [e1, Option.map_some]
        rcases a with ⟨pc', ls', st', h1⟩ | r1 | ⟨y', as, st'⟩
        · obtain ⟨o1, o2, o3⟩ := oka
          obtain ⟨f1, f2, f3⟩ := ih y pc' ls' st' h1 r h' o1 o2 he
          exact ⟨f1, fun a ha => (f2 a ha).trans (o3 a ha), f3⟩
        · cases he
          refine ⟨rfl, fun _ _ => rfl, fun v hv => ?_⟩
          subst hv
          exact oka
        · obtain ⟨o1, o2⟩ := oka
          obtain ⟨u, u1, u2⟩ := Option.bind_eq_some_iff.mp he
          have hn : (as ++ List.replicate (mL y' - as.length) Value.null).all (okv P) = true := by
            rw [List.all_append, o1, Bool.true_and, List.all_eq_true]
            intro x hx
            rw [(List.mem_replicate.mp hx).2]
            rfl
          obtain ⟨f1, f2, f3⟩ := ih y' 0 _ [] h u.1 u.2 hn rfl u1
          have hs2 : (u.1.toList ++ st').all (okv P) = true := by
            rw [List.all_append, o2, Bool.and_true]
            cases hu : u.1 with
            | none => rfl
            | some v => simp [f3 v hu]
          obtain ⟨k1, k2, k3⟩ := ih y (pc + 3) ls _ u.2 r h' hls hs2 u2
          exact ⟨Option.bind_eq_some_iff.mpr ⟨(u.1, mx P u.2 g), f1, k1⟩, fun a ha => (k2 a ha).trans (f2 a ha), k3⟩
theorem ex_loc (hcl : Clo P) {y pc : Nat} {ls st : List Value} {r : Option Value} {h' : Hp} (hls : ls.all (okv P) = true) (hst : st.all (okv P) = true) (he : ex y pc ls st h = some (r, h')) : ex y pc ls st (mx P h g) = some (r, mx P h' g) ∧ ∀ a, P a = false → h' a = h a := by
  obtain ⟨n, hn⟩ := ex_iff.mp he
  obtain ⟨f1, f2, -⟩ := exec_loc (g := g) hcl n y pc ls st h r h' hls hst hn
  exact ⟨ex_iff.mpr ⟨n, f1⟩, f2⟩
end LOC
def PX (k : Nat) : Bool := !(decide (600 ≤ k) && decide (k < 700))
def PM (k : Nat) : Bool := decide (600 ≤ k) && decide (k < 700)

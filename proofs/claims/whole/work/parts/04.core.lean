/-! ===== the abstract heap and the world that it stands for ===== -/
def hw (h : Hp) (k : Nat) (f : Nat → Int32) : Hp := fun a => if a = k then f else h a
def hu (h : Hp) (k j : Nat) (v : Int32) : Hp := hw h k (upd (h k) j v)
def vl (h : Hp) (k j : Nat) : Value := match rf k j with
  | some q => .ref q
  | none => .int (h k j)
def cv (ad : Nat → Nat) : Value → Value
  | .ref k => .ref (ad k)
  | v => v
def isIR : Value → Bool
  | .int _ => true
  | .ref _ => true
  | _ => false
theorem cv_cat (ad : Nat → Nat) (v : Value) : (cv ad v).category = v.category := by cases v <;> rfl
theorem cat_IR {v : Value} (h : isIR v = true) : v.category = 1 := by cases v <;> first | rfl | cases h
def ent (cA : Nat → ClassId) (ad : Nat → Nat) (h : Hp) (k : Nat) : va_E :=
  if kd k < 9 then .inr (kd k, (List.range (NF (kd k))).map (fun j => cv ad (vl h k j)))
  else if kd k < 11 then .inl (cA (kd k), ln k, .inl (h k))
  else .inl (cA (kd k), ln k, .inr (.inr (.inr (.inr (fun j => (rf k j).map ad)))))
def Ks : List Nat := (List.range 1400).filter (fun k => decide (kd k < 90))
def wl (cA : Nat → ClassId) (ad : Nat → Nat) (h : Hp) : va_W := Ks.map (fun k => (ad k, ent cA ad h k))
def ow (ad : Nat → Nat) : Nat → Prop := fun q => ∃ k, kd k < 90 ∧ q = ad k
def tysO (cA : Nat → ClassId) : List (ClassId × FieldType) := [(cA 9, .int), (cA 10, .boolean), (cA 11, .object "ColdLine$Tier"), (cA 12, .object "ColdLine$Car"), (cA 13, .object "ColdLine$Rule"), (cA 14, .object "ColdLine$Station")]
theorem Ks_nd : va_nd Ks = true := by decide +kernel
theorem Ks_in {k : Nat} (hk : kd k < 90) : ∃ q : Nat, Ks[q]? = some k := by
  have h : k ∈ Ks := by
    refine List.mem_filter.mpr ⟨List.mem_range.mpr ?_, by simpa using hk⟩
    rcases Nat.lt_or_ge k 1400 with h | h
    · exact h
    · rw [kd_hi k h] at hk
      omega
  exact List.getElem?_of_mem h
theorem Ks_kd {q k : Nat} (h : Ks[q]? = some k) : kd k < 90 := by
  have := (List.mem_filter.mp (List.mem_of_getElem? h)).2
  simpa using this
section WORLD
variable {cA : Nat → ClassId} {ad : Nat → Nat} {h h' : Hp}
theorem wl_get {q k : Nat} (hq : Ks[q]? = some k) : (wl cA ad h)[q]? = some (ad k, ent cA ad h k) := by
  simp [wl, List.getElem?_map, hq]
theorem wl_set {q k : Nat} (hq : Ks[q]? = some k) (he : ∀ k', k' ≠ k → ent cA ad h' k' = ent cA ad h k') : (wl cA ad h).set q (ad k, ent cA ad h' k) = wl cA ad h' := by
  apply List.ext_getElem?
  intro i
  by_cases hi : i = q
  · subst hi
    have hl : i < (wl cA ad h).length := by
      have := (List.getElem?_eq_some_iff.mp hq).1
      simpa [wl] using this
    rw [List.getElem?_set_self hl, wl_get hq]
  · rw [List.getElem?_set_ne (Ne.symm hi)]
    cases hk : Ks[i]? with
    | none => simp [wl, List.getElem?_map, hk]
    | some k' =>
      rw [wl_get hk, wl_get hk, he k' (fun e => hi (va_nd_inj Ks Ks_nd i q k (by rw [← e]; exact hk) hq))]
theorem wl_D {A : Nat → Prop} (hD : va_D A (wl cA ad h)) : va_D A (wl cA ad h') := by
  have key : ∀ (i : Nat) (p : Nat × va_E), (wl cA ad h')[i]? = some p → ∃ p', (wl cA ad h)[i]? = some p' ∧ p'.1 = p.1 := by
    intro i p hp
    cases hk : Ks[i]? with
    | none => simp [wl, List.getElem?_map, hk] at hp
    | some k =>
      rw [wl_get hk] at hp
      cases hp
      exact ⟨_, wl_get hk, rfl⟩
  refine ⟨fun i j x y hi hj hxy => ?_, fun k q hk => ?_⟩
  · obtain ⟨x0, h1, h2⟩ := key i x hi
    obtain ⟨y0, h3, h4⟩ := key j y hj
    exact hD.1 i j x0 y0 h1 h3 (h2.trans (hxy.trans h4.symm))
  · obtain ⟨q0, h1, h2⟩ := key k q hk
    rw [← h2]
    exact hD.2 k q0 h1
theorem ent_ne {k k' : Nat} {f : Nat → Int32} (hne : k' ≠ k) : ent cA ad (hw h k f) k' = ent cA ad h k' := by
  have e : (hw h k f) k' = h k' := by simp [hw, hne]
  have e2 : ∀ j, vl (hw h k f) k' j = vl h k' j := fun j => by unfold vl; rw [e]
  unfold ent
  rw [e]
  simp only [e2]
theorem ent_obj {k ci : Nat} (hk : kd k = ci) (hc : ci < 9) : ent cA ad h k = .inr (ci, (List.range (NF ci)).map (fun j => cv ad (vl h k j))) := by
  unfold ent
  rw [hk, if_pos hc]
theorem ent_num {k : Nat} (hk : kd k = 9 ∨ kd k = 10) : ent cA ad h k = .inl (cA (kd k), ln k, .inl (h k)) := by
  unfold ent
  rw [if_neg (by omega), if_pos (by omega)]
theorem ent_ref {k : Nat} (hk : 11 ≤ kd k) : ent cA ad h k = .inl (cA (kd k), ln k, .inr (.inr (.inr (.inr (fun j => (rf k j).map ad))))) := by
  unfold ent
  rw [if_neg (by omega), if_neg (by omega)]
theorem hw_self {k : Nat} {f : Nat → Int32} : (hw h k f) k = f := by simp [hw]
theorem range_set {N j : Nat} (hj : j < N) {f g : Nat → Value} {v : Value} (hv : g j = v) (he : ∀ i, i ≠ j → g i = f i) : ((List.range N).map f).set j v = (List.range N).map g := by
  apply List.ext_getElem?
  intro i
  by_cases hi : i = j
  · subst hi
    rw [List.getElem?_set_self (by simpa using hj)]
    simp [hj, hv]
  · rw [List.getElem?_set_ne (Ne.symm hi)]
    by_cases hn : i < N
    · simp [hn, he i hi]
    · have : N ≤ i := by omega
      simp [List.getElem?_eq_none, this]
end WORLD
/-- the locals -/
def lz (ad : Nat → Nat) (ls : List Value) : List (Nat × Value) := (List.range ls.length).filterMap (fun i => (ls[i]?).bind (fun v => if isIR v = true then some (i, cv ad v) else none))
def LR (nL : Nat) (ad : Nat → Nat) (lsA : Array Slot) (ls : List Value) : Prop := ls.length = nL ∧ lv_has lsA nL (lz ad ls)
theorem lz_mem {ad : Nat → Nat} {ls : List Value} {i : Nat} {w : Value} : (i, w) ∈ lz ad ls ↔ ∃ v, ls[i]? = some v ∧ isIR v = true ∧ w = cv ad v := by
  constructor
  · intro hm
    obtain ⟨j, hj, e⟩ := List.mem_filterMap.mp hm
    cases hv : ls[j]? with
    | none => rw [hv] at e; cases e
    | some v =>
      rw [hv] at e
      by_cases hi : isIR v = true
      · simp only [Option.bind_some, if_pos hi] at e
        cases e
        exact ⟨_, hv, hi, rfl⟩
      · simp only [Option.bind_some, if_neg hi] at e
        cases e
  · rintro ⟨v, hv, hi, rfl⟩
    refine List.mem_filterMap.mpr ⟨i, List.mem_range.mpr (List.getElem?_eq_some_iff.mp hv).1, ?_⟩
    simp only [hv, Option.bind_some, if_pos hi]
theorem LR.at {nL : Nat} {ad : Nat → Nat} {lsA : Array Slot} {ls : List Value} (hL : LR nL ad lsA ls) {i : Nat} {v : Value} (hv : ls[i]? = some v) (hi : isIR v = true) : lsA[i]? = some (.val (cv ad v)) :=
  hL.2.2.2 (i, cv ad v) (lz_mem.mpr ⟨v, hv, hi, rfl⟩)
theorem LR.set {nL : Nat} {ad : Nat → Nat} {lsA lsB : Array Slot} {ls : List Value} (hL : LR nL ad lsA ls) {i : Nat} {v : Value} (hv : isIR v = true) (hi : i < nL)
    (hB : lv_has lsB nL ((i, cv ad v) :: (lz ad ls).filter (fun q => !(q.1 == i) && !(q.1 + 1 == i && q.2.category == 2)))) : LR nL ad lsB (ls.set i v) := by
  refine ⟨by rw [List.length_set]; exact hL.1, hB.1, hB.2.1, fun q hq => ?_⟩
  obtain ⟨j, w⟩ := q
  obtain ⟨u, hu, hir, rfl⟩ := lz_mem.mp hq
  by_cases hj : j = i
  · subst hj
    rw [List.getElem?_set_self (by rw [hL.1]; exact hi)] at hu
    cases hu
    exact hB.2.2 (j, cv ad v) List.mem_cons_self
  · rw [List.getElem?_set_ne (Ne.symm hj)] at hu
    refine hB.2.2 (j, cv ad u) (List.mem_cons_of_mem _ (List.mem_filter.mpr ⟨lz_mem.mpr ⟨u, hu, hir, rfl⟩, ?_⟩))
    have hc : (cv ad u).category = 1 := by rw [cv_cat]; exact cat_IR hir
    simp [hj, hc]
theorem sl_one {vs : List Value} (h : ∀ v ∈ vs, v.category = 1) : lg_sl vs = vs.map Slot.val := by
  induction vs with
  | nil => rfl
  | cons v vs ih =>
    have h1 := h v List.mem_cons_self
    have h2 := ih (fun w hw => h w (List.mem_cons_of_mem _ hw))
    show (if v.category = 2 then [Slot.val v, Slot.second] else [Slot.val v]) ++ lg_sl vs = _
    rw [if_neg (by rw [h1]; decide), h2]
    rfl
theorem args_mem {vs : List Value} : ∀ {n i : Nat} {v : Value}, (∀ v ∈ vs, v.category = 1) → vs[i]? = some v → (n + i, v) ∈ lv_args n vs := by
  induction vs with
  | nil => intro n i v _ h; simp at h
  | cons w vs ih =>
    intro n i v hc h
    show _ ∈ (n, w) :: lv_args _ vs
    rw [if_neg (by rw [hc w List.mem_cons_self]; decide)]
    cases i with
    | zero => simp at h; subst h; exact List.mem_cons_self
    | succ i =>
      rw [List.getElem?_cons_succ] at h
      have := ih (n := n + 1) (fun u hu => hc u (List.mem_cons_of_mem _ hu)) h
      rw [show n + (i + 1) = n + 1 + i by omega]
      exact List.mem_cons_of_mem _ this
theorem LR.entry {nL : Nat} {ad : Nat → Nat} {as : List Value} (hir : as.all isIR = true) (hn : as.length ≤ nL) : LR nL ad ((lg_sl (as.map (cv ad)) ++ List.replicate (nL - (lg_sl (as.map (cv ad))).length) Slot.unset).toArray) (as ++ List.replicate (nL - as.length) .null) := by
  have hc : ∀ v ∈ as.map (cv ad), v.category = 1 := by
    intro v hv
    obtain ⟨u, hu, rfl⟩ := List.mem_map.mp hv
    rw [cv_cat]
    exact cat_IR (List.all_eq_true.mp hir u hu)
  have hlen : (lg_sl (as.map (cv ad))).length = as.length := by rw [sl_one hc]; simp
  have hE := lv_entry (as.map (cv ad)) (n := nL) (by rw [hlen]; exact hn)
  refine ⟨by simp; omega, hE.1, hE.2.1, fun q hq => ?_⟩
  obtain ⟨j, w⟩ := q
  obtain ⟨u, hu, hir2, rfl⟩ := lz_mem.mp hq
  refine hE.2.2 (j, cv ad u) ?_
  have hj : as[j]? = some u := by
    by_cases hjl : j < as.length
    · rw [List.getElem?_append_left hjl] at hu
      exact hu
    · rw [List.getElem?_append_right (by omega)] at hu
      have := List.mem_of_getElem? hu
      rw [List.mem_replicate] at this
      rw [this.2] at hir2
      cases hir2
  have := args_mem (vs := as.map (cv ad)) (n := 0) (i := j) (v := cv ad u) hc (by rw [List.getElem?_map, hj]; rfl)
  rw [Nat.zero_add] at this
  exact this

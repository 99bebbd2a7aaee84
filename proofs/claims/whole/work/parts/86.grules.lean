section GRULES
variable {l : Launch} {D : va_G} {cA : Nat → ClassId} {S0 t g pc : Nat} {ls st : List Value} {G G' : List GE} {cells slots : Nat}
theorem VG_iconst {n : Int} (hd : decode (gCd g) pc = .ok (.iconst n, 1)) (kk : VG l D cA S0 t g (pc + 1) ls (.int (Int32.ofInt n) :: st) G cells slots G') : VG l D cA S0 t g pc ls st G cells slots G' := by
  intro ad0 n0 ad p e s m args below meth c H locs lsA hn h0 C hK hX hs hP hD hS hL
  exact lv_iconst C.1 C.2.1 hd rfl (kk ad0 n0 ad p e s m args below meth c H locs lsA hn h0 C hK hX hs hP hD hS hL)
theorem VG_bipush {n : Int} (hd : decode (gCd g) pc = .ok (.bipush n, 2)) (kk : VG l D cA S0 t g (pc + 2) ls (.int (Int8.ofInt n).toInt32 :: st) G cells slots G') : VG l D cA S0 t g pc ls st G cells slots G' := by
  intro ad0 n0 ad p e s m args below meth c H locs lsA hn h0 C hK hX hs hP hD hS hL
  exact lv_bipush C.1 C.2.1 hd rfl (kk ad0 n0 ad p e s m args below meth c H locs lsA hn h0 C hK hX hs hP hD hS hL)
theorem VG_sipush {n : Int} (hd : decode (gCd g) pc = .ok (.sipush n, 3)) (kk : VG l D cA S0 t g (pc + 3) ls (.int (Int16.ofInt n).toInt32 :: st) G cells slots G') : VG l D cA S0 t g pc ls st G cells slots G' := by
  intro ad0 n0 ad p e s m args below meth c H locs lsA hn h0 C hK hX hs hP hD hS hL
  exact lv_sipush C.1 C.2.1 hd rfl (kk ad0 n0 ad p e s m args below meth c H locs lsA hn h0 C hK hX hs hP hD hS hL)
theorem VG_iload_n {i : Fin 4} {x : Int32} (hl : ls[(i : Nat)]? = some (.int x)) (hd : decode (gCd g) pc = .ok (.iload_n i, 1)) (kk : VG l D cA S0 t g (pc + 1) ls (.int x :: st) G cells slots G') : VG l D cA S0 t g pc ls st G cells slots G' := by
  intro ad0 n0 ad p e s m args below meth c H locs lsA hn h0 C hK hX hs hP hD hS hL
  exact lv_iload_n C.1 C.2.1 hd rfl (hL.at hl rfl) (kk ad0 n0 ad p e s m args below meth c H locs lsA hn h0 C hK hX hs hP hD hS hL)
theorem VG_aload_n {i : Fin 4} {x : Nat} (hl : ls[(i : Nat)]? = some (.ref x)) (hd : decode (gCd g) pc = .ok (.aload_n i, 1)) (kk : VG l D cA S0 t g (pc + 1) ls (.ref x :: st) G cells slots G') : VG l D cA S0 t g pc ls st G cells slots G' := by
  intro ad0 n0 ad p e s m args below meth c H locs lsA hn h0 C hK hX hs hP hD hS hL
  exact lv_aload_n C.1 C.2.1 hd rfl (hL.at hl rfl) (kk ad0 n0 ad p e s m args below meth c H locs lsA hn h0 C hK hX hs hP hD hS hL)
theorem VG_istore_n {i : Fin 4} {x : Int32} (hi : (i : Nat) < gL g) (hd : decode (gCd g) pc = .ok (.istore_n i, 1)) (kk : VG l D cA S0 t g (pc + 1) (ls.set i (.int x)) st G cells slots G') : VG l D cA S0 t g pc ls (.int x :: st) G cells slots G' := by
  intro ad0 n0 ad p e s m args below meth c H locs lsA hn h0 C hK hX hs hP hD hS hL
  exact lv_istore_n C.1 C.2.1 hd rfl hL.2 hi rfl (fun lsB hB => kk ad0 n0 ad p e s m args below meth c H locs lsB hn h0 C hK hX hs hP hD hS (hL.set (v := .int x) rfl hi hB))
theorem VG_astore_n {i : Fin 4} {x : Nat} (hi : (i : Nat) < gL g) (hd : decode (gCd g) pc = .ok (.astore_n i, 1)) (kk : VG l D cA S0 t g (pc + 1) (ls.set i (.ref x)) st G cells slots G') : VG l D cA S0 t g pc ls (.ref x :: st) G cells slots G' := by
  intro ad0 n0 ad p e s m args below meth c H locs lsA hn h0 C hK hX hs hP hD hS hL
  exact lv_astore_n C.1 C.2.1 hd rfl hL.2 hi rfl (fun lsB hB => kk ad0 n0 ad p e s m args below meth c H locs lsB hn h0 C hK hX hs hP hD hS (hL.set (v := .ref x) rfl hi hB))
theorem VG_iinc {i : Nat} {n : Int} {x : Int32} (hi : i < gL g) (hl : ls[i]? = some (.int x)) (hd : decode (gCd g) pc = .ok (.iinc i n, 3)) (kk : VG l D cA S0 t g (pc + 3) (ls.set i (.int (x + Int32.ofInt n))) st G cells slots G') : VG l D cA S0 t g pc ls st G cells slots G' := by
  intro ad0 n0 ad p e s m args below meth c H locs lsA hn h0 C hK hX hs hP hD hS hL
  obtain ⟨k, hk⟩ := List.getElem?_of_mem (lz_mem (ad := ad).mpr ⟨_, hl, rfl, rfl⟩)
  exact lv_iinc C.1 C.2.1 hd hL.2 hk rfl hi rfl (fun lsB hB => kk ad0 n0 ad p e s m args below meth c H locs lsB hn h0 C hK hX hs hP hD hS (hL.set (v := .int _) rfl hi hB))
theorem VG_iadd {a b : Int32} (hd : decode (gCd g) pc = .ok (.iadd, 1)) (kk : VG l D cA S0 t g (pc + 1) ls (.int (a + b) :: st) G cells slots G') : VG l D cA S0 t g pc ls (.int b :: .int a :: st) G cells slots G' := by
  intro ad0 n0 ad p e s m args below meth c H locs lsA hn h0 C hK hX hs hP hD hS hL
  exact lv_iadd C.1 C.2.1 hd (kk ad0 n0 ad p e s m args below meth c H locs lsA hn h0 C hK hX hs hP hD hS hL)
theorem VG_imul {a b : Int32} (hd : decode (gCd g) pc = .ok (.imul, 1)) (kk : VG l D cA S0 t g (pc + 1) ls (.int (a * b) :: st) G cells slots G') : VG l D cA S0 t g pc ls (.int b :: .int a :: st) G cells slots G' := by
  intro ad0 n0 ad p e s m args below meth c H locs lsA hn h0 C hK hX hs hP hD hS hL
  exact lv_imul C.1 C.2.1 hd (kk ad0 n0 ad p e s m args below meth c H locs lsA hn h0 C hK hX hs hP hD hS hL)
theorem VG_dup {u : Value} (hu : isIR u = true) (hd : decode (gCd g) pc = .ok (.dup, 1)) (kk : VG l D cA S0 t g (pc + 1) ls (u :: u :: st) G cells slots G') : VG l D cA S0 t g pc ls (u :: st) G cells slots G' := by
  intro ad0 n0 ad p e s m args below meth c H locs lsA hn h0 C hK hX hs hP hD hS hL
  exact lv_dup C.1 C.2.1 hd (by rw [cv_cat]; exact cat_IR hu) (kk ad0 n0 ad p e s m args below meth c H locs lsA hn h0 C hK hX hs hP hD hS hL)
theorem VG_goto {off : Int} {tgt : Nat} (ht : (pc : Int) + off = (tgt : Int)) (hd : decode (gCd g) pc = .ok (.goto off, 3)) (kk : VG l D cA S0 t g tgt ls st G cells slots G') : VG l D cA S0 t g pc ls st G cells slots G' := by
  intro ad0 n0 ad p e s m args below meth c H locs lsA hn h0 C hK hX hs hP hD hS hL
  exact lv_goto C.1 C.2.1 hd ht (kk ad0 n0 ad p e s m args below meth c H locs lsA hn h0 C hK hX hs hP hD hS hL)
theorem VG_icmp {off : Int} {tgt : Nat} {x z : Int32} (ht : (pc : Int) + off = (tgt : Int)) (hd : decode (gCd g) pc = .ok (.if_icmp .ge off, 3)) (kt : z ≤ x → VG l D cA S0 t g tgt ls st G cells slots G') (kf : ¬ z ≤ x → VG l D cA S0 t g (pc + 3) ls st G cells slots G') : VG l D cA S0 t g pc ls (.int z :: .int x :: st) G cells slots G' := by
  intro ad0 n0 ad p e s m args below meth c H locs lsA hn h0 C hK hX hs hP hD hS hL
  exact lv_icmp_ge C.1 C.2.1 hd ht (fun h => kt h ad0 n0 ad p e s m args below meth c H locs lsA hn h0 C hK hX hs hP hD hS hL) (fun h => kf h ad0 n0 ad p e s m args below meth c H locs lsA hn h0 C hK hX hs hP hD hS hL)
theorem VG_getf {i ci j k : Nat} {fs : List Value} {v : Value} (hf : fr (gO g) i = some (ci, j)) (hk : G[k]? = some (.inl (ci, fs))) (hv : fs[j]? = some v) (hd : decode (gCd g) pc = .ok (.getfield i, 3)) (kk : VG l D cA S0 t g (pc + 3) ls (v :: st) G cells slots G') : VG l D cA S0 t g pc ls (.ref k :: st) G cells slots G' := by
  intro ad0 n0 ad p e s m args below meth c H locs lsA hn h0 C hK hX hs hP hD hS hL
  obtain ⟨hlink, hj, hci⟩ := fr_spec hf
  exact va_get (D := D) (ci := ci) (v := cv ad v) (C := RN ci) (T := TT ci) (N := NF ci) C.1 C.2.1 C.2.2.2.2.2.1 (lay_in ci hci) C.2.2.2.2.1 hK hP k (fs := fs.map (cv ad)) (gw_get hk) (vwCl_at ci hci) j hj (C.2.2.2.2.2.1 _ hlink) (fun _ h9 => h9) (by simp [hv]) hd (kk ad0 n0 ad p e s m args below meth c H locs lsA hn h0 C hK hX hs hP hD hS hL)
theorem VG_puti {i ci j k : Nat} {x : Int32} {fs : List Value} (hf : fr (gO g) i = some (ci, j)) (hk : G[k]? = some (.inl (ci, fs))) (ht : ft ci j = 0 ∨ (ft ci j = 1 ∧ (x = 0 ∨ x = 1))) (hl : j < fs.length) (hd : decode (gCd g) pc = .ok (.putfield i, 3)) (kk : VG l D cA S0 t g (pc + 3) ls st (G.set k (.inl (ci, fs.set j (.int x)))) cells slots G') : VG l D cA S0 t g pc ls (.int x :: .ref k :: st) G cells slots G' := by
  intro ad0 n0 ad p e s m args below meth c H locs lsA hn h0 C hK hX hs hP hD hS hL
  obtain ⟨hlink, hj, hci⟩ := fr_spec hf
  obtain ⟨hfin, hty⟩ := ft_ok ci hci j hj (by omega)
  have hnn : narrow (tyT ci j) (.int x) = .int x ∧ fits (tyT ci j) (.int x) = true := by
    rcases ht with ht | ⟨ht, hx⟩
    · rw [hty.1 ht]
      exact ⟨rfl, rfl⟩
    · rw [hty.2 ht]
      rcases hx with rfl | rfl
      · exact ⟨by decide, by decide⟩
      · exact ⟨by decide, by decide⟩
  refine va_put (D := D) (ci := ci) (v := .int x) (ty := tyT ci j) (C := RN ci) (T := TT ci) (N := NF ci) C.1 C.2.1 C.2.2.2.2.2.1 (lay_in ci hci) (tyT ci) (ty_ok ci hci) (nm_ok ci hci) C.2.2.2.2.1 hK hP hD hS k (fs := fs.map (cv ad)) (gw_get hk) (vwCl_at ci hci) j hj (C.2.2.2.2.2.1 _ hlink) (fun _ h9 => h9) hfin (ty_ok ci hci j hj) hnn.1 hnn.2 (by simpa using hl) hd (fun H1 locs1 hP1 hD1 hS1 => ?_)
  have ee : (gwd cA ad G).set k (ad k, .inr (ci, (fs.map (cv ad)).set j (.int x))) = gwd cA ad (G.set k (.inl (ci, fs.set j (.int x)))) := by
    rw [← gw_set hk]
    show _ = (gwd cA ad G).set k (ad k, .inr (ci, (fs.set j (.int x)).map (cv ad)))
    rw [List.map_set]
    rfl
  rw [ee] at hP1 hD1
  exact kk ad0 n0 ad p e s m args below meth c H1 locs1 lsA hn (by simpa using h0) C hK hX hs hP1 hD1 hS1 hL
def isRT : FieldType → Bool
  | .object _ => true
  | .array _ => true
  | _ => false
theorem isRT_ok {ty : FieldType} (h : isRT ty = true) (a : Nat) : narrow ty (.ref a) = .ref a ∧ fits ty (.ref a) = true := by
  cases ty <;> first | exact ⟨rfl, rfl⟩ | cases h
theorem ft_ref : ∀ ci, ci < 9 → ∀ j, j < NF ci → ft ci j = 2 → isRT (tyT ci j) = true ∧ (TT ci j).2.2.2 = true ∧ (TT ci j).1 = RN ci := by decide +kernel
theorem VG_putr {i j k q : Nat} {fs : List Value} (hg : g < 9) (hf : fr (gO g) i = some (g, j)) (hk : G[k]? = some (.inl (g, fs))) (ht : ft g j = 2) (hl : j < fs.length) (hd : decode (gCd g) pc = .ok (.putfield i, 3)) (kk : VG l D cA S0 t g (pc + 3) ls st (G.set k (.inl (g, fs.set j (.ref q)))) cells slots G') : VG l D cA S0 t g pc ls (.ref q :: .ref k :: st) G cells slots G' := by
  intro ad0 n0 ad p e s m args below meth c H locs lsA hn h0 C hK hX hs hP hD hS hL
  obtain ⟨hlink, hj, hci⟩ := fr_spec hf
  obtain ⟨hrt, hfin, hdc⟩ := ft_ref g hci j hj ht
  obtain ⟨hn1, hn2⟩ := isRT_ok hrt (ad q)
  have hgo : ∀ g, g < 9 → gO g = g := by decide
  refine va_putF (D := D) (ci := g) (v := .ref (ad q)) (ty := tyT g j) (C := RN g) (T := TT g) (N := NF g) C.1 C.2.1 C.2.2.2.2.2.1 (lay_in g hci) (tyT g) (ty_ok g hci) (nm_ok g hci) C.2.2.2.2.1 hK hP hD hS k (fs := fs.map (cv ad)) (gw_get hk) (vwCl_at g hci) j hj (C.2.2.2.2.2.1 _ hlink) (fun _ h9 => h9) hfin (C.2.2.2.2.2.2.2 hg) (by rw [hdc, hgo g hg]) (ty_ok g hci j hj) hn1 hn2 (by simpa using hl) hd (fun H1 locs1 hP1 hD1 hS1 => ?_)
  have ee : (gwd cA ad G).set k (ad k, .inr (g, (fs.map (cv ad)).set j (.ref (ad q)))) = gwd cA ad (G.set k (.inl (g, fs.set j (.ref q)))) := by
    rw [← gw_set hk]
    show _ = (gwd cA ad G).set k (ad k, .inr (g, (fs.set j (.ref q)).map (cv ad)))
    rw [List.map_set]
    rfl
  rw [ee] at hP1 hD1
  exact kk ad0 n0 ad p e s m args below meth c H1 locs1 lsA hn (by simpa using h0) C hK hX hs hP1 hD1 hS1 hL
theorem VG_iald {k : Nat} {x : Int32} {xs : List Int32} (hk : G[k]? = some (.inr (.inl (9, xs)))) (hx : vp_in x xs.length) (hd : decode (gCd g) pc = .ok (.iaload, 1)) (kk : VG l D cA S0 t g (pc + 1) ls (.int (xs.getD x.toNatClampNeg 0) :: st) G cells slots G') : VG l D cA S0 t g pc ls (.int x :: .ref k :: st) G cells slots G' := by
  intro ad0 n0 ad p e s m args below meth c H locs lsA hn h0 C hK hX hs hP hD hS hL
  exact va_iald C.1 C.2.1 hK hP k 0 (gw_get hk) rfl hx hd (kk ad0 n0 ad p e s m args below meth c H locs lsA hn h0 C hK hX hs hP hD hS hL)
theorem upd_getD {xs : List Int32} {i : Nat} (hi : i < xs.length) (u : Int32) : upd (fun j => xs.getD j 0) i u = fun j => (xs.set i u).getD j 0 := by
  funext j
  by_cases hj : j = i
  · subst hj
    rw [pk_us, List.getD_eq_getElem?_getD, List.getElem?_set_self hi]
    rfl
  · rw [pk_un hj, List.getD_eq_getElem?_getD, List.getD_eq_getElem?_getD, List.getElem?_set_ne (Ne.symm hj)]
theorem VG_iast {k : Nat} {x u : Int32} {xs : List Int32} (hk : G[k]? = some (.inr (.inl (9, xs)))) (hx : vp_in x xs.length) (hd : decode (gCd g) pc = .ok (.iastore, 1)) (kk : VG l D cA S0 t g (pc + 1) ls st (G.set k (.inr (.inl (9, xs.set x.toNatClampNeg u)))) cells slots G') : VG l D cA S0 t g pc ls (.int u :: .int x :: .ref k :: st) G cells slots G' := by
  intro ad0 n0 ad p e s m args below meth c H locs lsA hn h0 C hK hX hs hP hD hS hL
  refine va_iast C.1 C.2.1 hK hP hD hS k 0 (gw_get hk) rfl hx hd (fun H1 locs1 hP1 hD1 hS1 => ?_)
  have hlt : x.toNatClampNeg < xs.length := Nat.not_le.mp fun q => hx (Or.inr q)
  have ee : (gwd cA ad G).set k (ad k, .inl (cA 9, xs.length, .inl (upd (fun j => xs.getD j 0) x.toNatClampNeg u))) = gwd cA ad (G.set k (.inr (.inl (9, xs.set x.toNatClampNeg u)))) := by
    rw [← gw_set hk, upd_getD hlt]
    show _ = (gwd cA ad G).set k (ad k, .inl (cA 9, (xs.set x.toNatClampNeg u).length, .inl (fun j => (xs.set x.toNatClampNeg u).getD j 0)))
    rw [List.length_set]
  rw [ee] at hP1 hD1
  exact kk ad0 n0 ad p e s m args below meth c H1 locs1 lsA hn (by simpa using h0) C hK hX hs hP1 hD1 hS1 hL
theorem VG_alen {k : Nat} {xs : List Int32} (hk : G[k]? = some (.inr (.inl (9, xs)))) (hd : decode (gCd g) pc = .ok (.arraylength, 1)) (kk : VG l D cA S0 t g (pc + 1) ls (.int (Int32.ofNat xs.length) :: st) G cells slots G') : VG l D cA S0 t g pc ls (.ref k :: st) G cells slots G' := by
  intro ad0 n0 ad p e s m args below meth c H locs lsA hn h0 C hK hX hs hP hD hS hL
  exact va_alen (x := (xs.length, .inl (fun j => xs.getD j 0))) C.1 C.2.1 hK hP k 0 (gw_get hk) rfl rfl hd (kk ad0 n0 ad p e s m args below meth c H locs lsA hn h0 C hK hX hs hP hD hS hL)
/-- arrays of references: kind, class -/
def RK : List (Nat × Nat) := [(11, 6), (12, 0), (13, 3), (14, 4)]
theorem RK_ty {kn ci : Nat} (h : (kn, ci) ∈ RK) : (∃ t0 : Nat, (tysO cA)[t0]? = some (cA kn, .object (RN ci))) ∧ ci < 9 ∧ ci ∈ ([0, 3, 4, 6] : List Nat) := by
  simp only [RK, List.mem_cons, List.not_mem_nil, or_false, Prod.mk.injEq] at h
  rcases h with ⟨rfl, rfl⟩ | ⟨rfl, rfl⟩ | ⟨rfl, rfl⟩ | ⟨rfl, rfl⟩
  · exact ⟨⟨2, rfl⟩, by decide, by decide⟩
  · exact ⟨⟨3, rfl⟩, by decide, by decide⟩
  · exact ⟨⟨4, rfl⟩, by decide, by decide⟩
  · exact ⟨⟨5, rfl⟩, by decide, by decide⟩
theorem VG_aald {k q kn ci : Nat} {x : Int32} {rs : List (Option Nat)} (hr : (kn, ci) ∈ RK) (hk : G[k]? = some (.inr (.inr (kn, rs)))) (hx : vp_in x rs.length) (hq : rs.getD x.toNatClampNeg none = some q) (hd : decode (gCd g) pc = .ok (.aaload, 1)) (kk : VG l D cA S0 t g (pc + 1) ls (.ref q :: st) G cells slots G') : VG l D cA S0 t g pc ls (.int x :: .ref k :: st) G cells slots G' := by
  intro ad0 n0 ad p e s m args below meth c H locs lsA hn h0 C hK hX hs hP hD hS hL
  obtain ⟨⟨t0, ht0⟩, -⟩ := RK_ty (cA := cA) hr
  refine va_aldq C.1 C.2.1 hK hP k t0 (gw_get hk) ht0 hx hd ?_
  rw [hq]
  exact (kk ad0 n0 ad p e s m args below meth c H locs lsA hn h0 C hK hX hs hP hD hS hL)
theorem VG_aast {k k2 kn ci : Nat} {x : Int32} {rs : List (Option Nat)} {fs : List Value} (hr : (kn, ci) ∈ RK) (hk : G[k]? = some (.inr (.inr (kn, rs)))) (hk2 : G[k2]? = some (.inl (ci, fs))) (hx : vp_in x rs.length) (hd : decode (gCd g) pc = .ok (.aastore, 1)) (kk : VG l D cA S0 t g (pc + 1) ls st (G.set k (.inr (.inr (kn, rs.set x.toNatClampNeg (some k2))))) cells slots G') : VG l D cA S0 t g pc ls (.ref k2 :: .int x :: .ref k :: st) G cells slots G' := by
  intro ad0 n0 ad p e s m args below meth c H locs lsA hn h0 C hK hX hs hP hD hS hL
  obtain ⟨⟨t0, ht0⟩, hci, -⟩ := RK_ty (cA := cA) hr
  refine va_astq (r := (RN ci, TT ci, NF ci)) (f := fun j => (rs.getD j none).map ad) (n := rs.length) (vs := fs.map (cv ad)) C.1 C.2.1 hK hP hD hS k t0 k2 ci (gw_get hk) ht0 (gw_get hk2) (vwCl_at ci hci) hx hd (fun H1 locs1 hP1 hD1 hS1 => ?_)
  have hlt : x.toNatClampNeg < rs.length := Nat.not_le.mp fun q => hx (Or.inr q)
  have ef : va_up (fun j => (rs.getD j none).map ad) x.toNatClampNeg (some (ad k2)) = fun j => ((rs.set x.toNatClampNeg (some k2)).getD j none).map ad := by
    funext j
    by_cases hj : j = x.toNatClampNeg
    · rw [hj, va_up_self, List.getD_eq_getElem?_getD, List.getElem?_set_self hlt]
      rfl
    · rw [va_up_ne _ _ hj, List.getD_eq_getElem?_getD, List.getD_eq_getElem?_getD, List.getElem?_set_ne (Ne.symm hj)]
  have ee : (gwd cA ad G).set k (ad k, .inl (cA kn, rs.length, .inr (.inr (.inr (.inr (va_up (fun j => (rs.getD j none).map ad) x.toNatClampNeg (some (ad k2)))))))) = gwd cA ad (G.set k (.inr (.inr (kn, rs.set x.toNatClampNeg (some k2))))) := by
    rw [← gw_set hk, ef]
    show _ = (gwd cA ad G).set k (ad k, .inl (cA kn, (rs.set x.toNatClampNeg (some k2)).length, .inr (.inr (.inr (.inr (fun j => ((rs.set x.toNatClampNeg (some k2)).getD j none).map ad))))))
    rw [List.length_set]
  rw [ee] at hP1 hD1
  exact kk ad0 n0 ad p e s m args below meth c H1 locs1 lsA hn (by simpa using h0) C hK hX hs hP1 hD1 hS1 hL
theorem VG_oinit {k i : Nat} (hlk : Cond.methodLink (RN (gO g)) i Lib.objectInit ∈ lwg) (hrm : 1 ≤ gF g ∧ 20 ≤ gLo g) (hst : st.length ≤ 4) (hd : decode (gCd g) pc = .ok (.invokespecial i, 3)) (kk : VG l D cA S0 t g (pc + 3) ls st G cells slots G') : VG l D cA S0 t g pc ls (.ref k :: st) G cells slots G' := by
  intro ad0 n0 ad p e s m args below meth c H locs lsA hn h0 C hK hX hs hP hD hS hL
  have hts := C.2.2.2.2.2.1
  have hcs := cat_sum (ad := ad) hst
  have hw1 : Cond.instanceMethod Lib.objectInit ∈ lwg := by decide +kernel
  have hw2 : Cond.code Lib.objectInit ⟨#[0xb1]⟩ 1 none ∈ lwg := by decide +kernel
  exact W.objInit C.1 C.2.1 C.2.2.2.2.1 (hts _ hlk) (hts _ hw1) (hts _ hw2) rfl (by rw [C.2.2.1]; exact hL.2.1) rfl hd hrm.1 (by show 2 * 0 + _ + 12 ≤ gLo g; have := hrm.2; omega) (kk ad0 n0 ad p e s m args below meth c H locs lsA hn h0 C hK hX hs hP hD hS hL)
theorem VG_ret (hc : cells ≤ gMc g ∧ slots ≤ gMs g) (hd : decode (gCd g) pc = .ok (.return_, 1)) : VG l D cA S0 t g pc ls [] G cells slots G := by
  intro ad0 n0 ad p e s m args below meth c H locs lsA hn h0 C hK hX hs hP hD hS hL
  refine W.widen (k := gMc g) (n := gMs g) hc.1 hc.2 ?_
  exact W.vret C.1 C.2.1 C.2.2.2.1 (fun t ht hWm => ⟨rfl, ad, hn, by rw [ht]; exact hP, hD, hS.F ht⟩) hS.2.2 hd C.2.2.2.2.2.2.1
end GRULES

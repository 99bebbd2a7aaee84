/-! ===== the interpreter tells the truth ===== -/
def Kont (l : Launch) (D : va_G) (cA : Nat → ClassId) (ad adV : Nat → Nat) (y pc : Nat) (ls : List Value) (h : Hp) (Φ : Option Value → Hp → Prop) : Act → Prop
  | .inl (pc', ls', st', h') => V l D cA ad adV y pc' ls' st' h' Φ
  | .inr (.inl r) => Φ r h
  | .inr (.inr (y', as, st')) => y' < nM → ∃ Ψ : Option Value → Hp → Prop, V l D cA ad adV y' 0 (as ++ List.replicate (mL y' - as.length) .null) [] h Ψ ∧ ∀ r h', Ψ r h' → V l D cA ad adV y (pc + 3) ls (r.toList ++ st') h' Φ
theorem in_of {x : Int32} {n : Nat} (h1 : x.toNatClampNeg < n) (h2 : 0 ≤ x) : vp_in x n := by
  intro h
  rcases h with h | h
  · exact absurd h (Int32.not_lt.mpr h2)
  · omega
set_option maxHeartbeats 4000000 in
set_option maxRecDepth 100000 in
theorem op_sound {l : Launch} {D : va_G} {cA : Nat → ClassId} {ad adV : Nat → Nat} {y pc : Nat} {ls st : List Value} {h : Hp} {Φ : Option Value → Hp → Prop} {ins : Instr} {len : Nat} {a : Act} (hStr : StrOK l) (hy : y < nM)
    (hd : decode (cd y) pc = .ok (ins, len)) (hop : op y pc ls st h ins len = some a) (K : Kont l D cA ad adV y pc ls h Φ a) : V l D cA ad adV y pc ls st h Φ := by
  cases ins with
  | iconst n =>
    simp only [op] at hop
    split at hop
    · rename_i hl
      subst hl
      cases hop
      exact V_iconst hd K
    · cases hop
  | bipush n =>
    simp only [op] at hop
    split at hop
    · rename_i hl
      subst hl
      cases hop
      exact V_bipush hd K
    · cases hop
  | sipush n =>
    simp only [op] at hop
    split at hop
    · rename_i hl
      subst hl
      cases hop
      exact V_sipush hd K
    · cases hop
  | ldc i =>
    simp only [op] at hop
    split at hop
    · rename_i hl
      subst hl
      split at hop
      · rename_i v hv
        cases hop
        exact V_ldc hv hd K
      · have hopX := Option.bind_eq_some_iff.mp hop
        clear hop
        obtain ⟨q, hq, hop⟩ := hopX
        cases hop
        exact V_ldcS hq hd K
    · cases hop
  | ldc2_w i =>
    simp only [op] at hop
    split at hop
    · rename_i hl
      subst hl
      have hopX := Option.bind_eq_some_iff.mp hop
      clear hop
      obtain ⟨q, hq, hop⟩ := hopX
      cases hop
      exact V_ldc2 hq hd K
    · cases hop
  | iload_n i =>
    simp only [op] at hop
    split at hop
    · rename_i hl
      subst hl
      have hopX := Option.bind_eq_some_iff.mp hop
      clear hop
      obtain ⟨q, hq, hop⟩ := hopX
      cases hop
      exact V_iload_n (ldI_e hq) hd K
    · cases hop
  | iload i =>
    simp only [op] at hop
    split at hop
    · rename_i hl
      subst hl
      have hopX := Option.bind_eq_some_iff.mp hop
      clear hop
      obtain ⟨q, hq, hop⟩ := hopX
      cases hop
      exact V_iload (ldI_e hq) hd K
    · cases hop
  | aload_n i =>
    simp only [op] at hop
    split at hop
    · rename_i hl
      subst hl
      have hopX := Option.bind_eq_some_iff.mp hop
      clear hop
      obtain ⟨q, hq, hop⟩ := hopX
      cases hop
      exact V_aload_n (ldA_e hq) hd K
    · cases hop
  | aload i =>
    simp only [op] at hop
    split at hop
    · rename_i hl
      subst hl
      have hopX := Option.bind_eq_some_iff.mp hop
      clear hop
      obtain ⟨q, hq, hop⟩ := hopX
      cases hop
      exact V_aload (ldA_e hq) hd K
    · cases hop
  | istore_n i =>
    simp only [op] at hop
    split at hop
    · rename_i hl
      obtain ⟨hl, hi⟩ := hl
      subst hl
      have hopX := Option.bind_eq_some_iff.mp hop
      clear hop
      obtain ⟨q, hq, hop⟩ := hopX
      obtain rfl := p1_e hq
      cases hop
      exact V_istore_n hi hd K
    · cases hop
  | istore i =>
    simp only [op] at hop
    split at hop
    · rename_i hl
      obtain ⟨hl, hi⟩ := hl
      subst hl
      have hopX := Option.bind_eq_some_iff.mp hop
      clear hop
      obtain ⟨q, hq, hop⟩ := hopX
      obtain rfl := p1_e hq
      cases hop
      exact V_istore hi hd K
    · cases hop
  | astore_n i =>
    simp only [op] at hop
    split at hop
    · rename_i hl
      obtain ⟨hl, hi⟩ := hl
      subst hl
      have hopX := Option.bind_eq_some_iff.mp hop
      clear hop
      obtain ⟨q, hq, hop⟩ := hopX
      obtain rfl := pa_e hq
      cases hop
      exact V_astore_n hi hd K
    · cases hop
  | astore i =>
    simp only [op] at hop
    split at hop
    · rename_i hl
      obtain ⟨hl, hi⟩ := hl
      subst hl
      have hopX := Option.bind_eq_some_iff.mp hop
      clear hop
      obtain ⟨q, hq, hop⟩ := hopX
      obtain rfl := pa_e hq
      cases hop
      exact V_astore hi hd K
    · cases hop
  | iinc i n =>
    simp only [op] at hop
    split at hop
    · rename_i hl
      obtain ⟨hl, hi⟩ := hl
      subst hl
      have hopX := Option.bind_eq_some_iff.mp hop
      clear hop
      obtain ⟨q, hq, hop⟩ := hopX
      cases hop
      exact V_iinc hi (ldI_e hq) hd K
    · cases hop
  | iadd =>
    simp only [op] at hop
    split at hop
    · rename_i hl
      subst hl
      have hopX := Option.bind_eq_some_iff.mp hop
      clear hop
      obtain ⟨q, hq, hop⟩ := hopX
      obtain rfl := p2_e hq
      cases hop
      exact V_iadd hd K
    · cases hop
  | isub =>
    simp only [op] at hop
    split at hop
    · rename_i hl
      subst hl
      have hopX := Option.bind_eq_some_iff.mp hop
      clear hop
      obtain ⟨q, hq, hop⟩ := hopX
      obtain rfl := p2_e hq
      cases hop
      exact V_isub hd K
    · cases hop
  | imul =>
    simp only [op] at hop
    split at hop
    · rename_i hl
      subst hl
      have hopX := Option.bind_eq_some_iff.mp hop
      clear hop
      obtain ⟨q, hq, hop⟩ := hopX
      obtain rfl := p2_e hq
      cases hop
      exact V_imul hd K
    · cases hop
  | iand =>
    simp only [op] at hop
    split at hop
    · rename_i hl
      subst hl
      have hopX := Option.bind_eq_some_iff.mp hop
      clear hop
      obtain ⟨q, hq, hop⟩ := hopX
      obtain rfl := p2_e hq
      cases hop
      exact V_iand hd K
    · cases hop
  | ixor =>
    simp only [op] at hop
    split at hop
    · rename_i hl
      subst hl
      have hopX := Option.bind_eq_some_iff.mp hop
      clear hop
      obtain ⟨q, hq, hop⟩ := hopX
      obtain rfl := p2_e hq
      cases hop
      exact V_ixor hd K
    · cases hop
  | ishr =>
    simp only [op] at hop
    split at hop
    · rename_i hl
      subst hl
      have hopX := Option.bind_eq_some_iff.mp hop
      clear hop
      obtain ⟨q, hq, hop⟩ := hopX
      obtain rfl := p2_e hq
      cases hop
      exact V_ishr hd K
    · cases hop
  | idiv =>
    simp only [op] at hop
    split at hop
    · rename_i hl
      subst hl
      have hopX := Option.bind_eq_some_iff.mp hop
      clear hop
      obtain ⟨q, hq, hop⟩ := hopX
      obtain rfl := p2_e hq
      split at hop
      · cases hop
      · rename_i hz
        cases hop
        exact V_idiv hz hd K
    · cases hop
  | irem =>
    simp only [op] at hop
    split at hop
    · rename_i hl
      subst hl
      have hopX := Option.bind_eq_some_iff.mp hop
      clear hop
      obtain ⟨q, hq, hop⟩ := hopX
      obtain rfl := p2_e hq
      split at hop
      · cases hop
      · rename_i hz
        cases hop
        exact V_irem hz hd K
    · cases hop
  | ineg =>
    simp only [op] at hop
    split at hop
    · rename_i hl
      subst hl
      have hopX := Option.bind_eq_some_iff.mp hop
      clear hop
      obtain ⟨q, hq, hop⟩ := hopX
      obtain rfl := p1_e hq
      cases hop
      exact V_ineg hd K
    · cases hop
  | i2l =>
    simp only [op] at hop
    split at hop
    · rename_i hl
      subst hl
      have hopX := Option.bind_eq_some_iff.mp hop
      clear hop
      obtain ⟨q, hq, hop⟩ := hopX
      obtain rfl := p1_e hq
      cases hop
      exact V_i2l hd K
    · cases hop
  | l2i =>
    simp only [op] at hop
    split at hop
    · rename_i hl
      subst hl
      have hopX := Option.bind_eq_some_iff.mp hop
      clear hop
      obtain ⟨q, hq, hop⟩ := hopX
      obtain rfl := pl1_e hq
      cases hop
      exact V_l2i hd K
    · cases hop
  | lmul =>
    simp only [op] at hop
    split at hop
    · rename_i hl
      subst hl
      have hopX := Option.bind_eq_some_iff.mp hop
      clear hop
      obtain ⟨q, hq, hop⟩ := hopX
      obtain rfl := pl2_e hq
      cases hop
      exact V_lmul hd K
    · cases hop
  | ldiv =>
    simp only [op] at hop
    split at hop
    · rename_i hl
      subst hl
      have hopX := Option.bind_eq_some_iff.mp hop
      clear hop
      obtain ⟨q, hq, hop⟩ := hopX
      obtain rfl := pl2_e hq
      split at hop
      · cases hop
      · rename_i hz
        cases hop
        exact V_ldiv hz hd K
    · cases hop
  | dup =>
    simp only [op] at hop
    split at hop
    · rename_i hl
      subst hl
      have hopX := Option.bind_eq_some_iff.mp hop
      clear hop
      obtain ⟨q, hq, hop⟩ := hopX
      obtain ⟨rfl, hu⟩ := pv1_e hq
      cases hop
      exact V_dup hu hd K
    · cases hop
  | pop =>
    simp only [op] at hop
    split at hop
    · rename_i hl
      subst hl
      have hopX := Option.bind_eq_some_iff.mp hop
      clear hop
      obtain ⟨q, hq, hop⟩ := hopX
      obtain ⟨rfl, hu⟩ := pv1_e hq
      cases hop
      exact V_pop hu hd K
    · cases hop
  | dup_x1 =>
    simp only [op] at hop
    split at hop
    · rename_i hl
      subst hl
      have hopX := Option.bind_eq_some_iff.mp hop
      clear hop
      obtain ⟨q, hq, hop⟩ := hopX
      obtain ⟨rfl, hu, hv⟩ := pv2_e hq
      cases hop
      exact V_dup_x1 hu hv hd K
    · cases hop
  | dup2 =>
    simp only [op] at hop
    split at hop
    · rename_i hl
      subst hl
      have hopX := Option.bind_eq_some_iff.mp hop
      clear hop
      obtain ⟨q, hq, hop⟩ := hopX
      obtain ⟨rfl, hu, hv⟩ := pv2_e hq
      cases hop
      exact V_dup2 hu hv hd K
    · cases hop
  | ifCond o off =>
    simp only [op] at hop
    split at hop
    · rename_i hl
      subst hl
      have hopX := Option.bind_eq_some_iff.mp hop
      clear hop
      obtain ⟨q, hq, hop⟩ := hopX
      obtain rfl := p1_e hq
      have hopX := Option.bind_eq_some_iff.mp hop
      clear hop
      obtain ⟨t, ht, hop⟩ := hopX
      split at hop
      · rename_i hc
        cases hop
        exact V_if (jmp_e ht) hd (fun _ => K) (fun hf => absurd (hf.symm.trans hc) (by decide))
      · rename_i hc
        cases hop
        exact V_if (jmp_e ht) hd (fun hf => absurd hf hc) (fun _ => K)
    · cases hop
  | if_icmp o off =>
    simp only [op] at hop
    split at hop
    · rename_i hl
      subst hl
      have hopX := Option.bind_eq_some_iff.mp hop
      clear hop
      obtain ⟨q, hq, hop⟩ := hopX
      obtain rfl := p2_e hq
      have hopX := Option.bind_eq_some_iff.mp hop
      clear hop
      obtain ⟨t, ht, hop⟩ := hopX
      split at hop
      · rename_i hc
        cases hop
        exact V_icmp (jmp_e ht) hd (fun _ => K) (fun hf => absurd (hf.symm.trans hc) (by decide))
      · rename_i hc
        cases hop
        exact V_icmp (jmp_e ht) hd (fun hf => absurd hf hc) (fun _ => K)
    · cases hop
  | goto off =>
    simp only [op] at hop
    split at hop
    · rename_i hl
      subst hl
      have hopX := Option.bind_eq_some_iff.mp hop
      clear hop
      obtain ⟨t, ht, hop⟩ := hopX
      cases hop
      exact V_goto (jmp_e ht) hd K
    · cases hop
  | tableswitch d lo hi offs =>
    simp only [op] at hop
    have hopX := Option.bind_eq_some_iff.mp hop
    clear hop
    obtain ⟨q, hq, hop⟩ := hopX
    obtain rfl := p1_e hq
    split at hop
    · rename_i hx
      have hopX := Option.bind_eq_some_iff.mp hop
      clear hop
      obtain ⟨t, ht, hop⟩ := hopX
      cases hop
      exact V_tblOut hx (jmp_e ht) hd K
    · rename_i hx
      have hopX := Option.bind_eq_some_iff.mp hop
      clear hop
      obtain ⟨o, ho, hop⟩ := hopX
      have hopX := Option.bind_eq_some_iff.mp hop
      clear hop
      obtain ⟨t, ht, hop⟩ := hopX
      cases hop
      exact V_tblIn (fun z => hx (Or.inl z)) (fun z => hx (Or.inr z)) ho (jmp_e ht) hd K
  | lookupswitch d ps =>
    simp only [op] at hop
    have hopX := Option.bind_eq_some_iff.mp hop
    clear hop
    obtain ⟨q, hq, hop⟩ := hopX
    obtain rfl := p1_e hq
    split at hop
    · rename_i hx
      have hopX := Option.bind_eq_some_iff.mp hop
      clear hop
      obtain ⟨t, ht, hop⟩ := hopX
      cases hop
      exact V_lookup hx rfl (jmp_e ht) hd K
    · cases hop
  | getfield i =>
    simp only [op] at hop
    split at hop
    · rename_i hl
      subst hl
      have hopX := Option.bind_eq_some_iff.mp hop
      clear hop
      obtain ⟨q, hq, hop⟩ := hopX
      obtain rfl := pa_e hq
      have hopX := Option.bind_eq_some_iff.mp hop
      clear hop
      obtain ⟨f, hf, hop⟩ := hopX
      split at hop
      · rename_i hc
        cases hop
        exact V_getf (ci := f.1) (j := f.2) hf hc hd K
      · cases hop
    · cases hop
  | putfield i =>
    simp only [op] at hop
    split at hop
    · rename_i hl
      subst hl
      have hopX := Option.bind_eq_some_iff.mp hop
      clear hop
      obtain ⟨q, hq, hop⟩ := hopX
      obtain rfl := pia_e hq
      have hopX := Option.bind_eq_some_iff.mp hop
      clear hop
      obtain ⟨f, hf, hop⟩ := hopX
      split at hop
      · rename_i hc
        cases hop
        exact V_putf (ci := f.1) (j := f.2) hf hc.1 hc.2 hd K
      · cases hop
    · cases hop
  | iaload =>
    simp only [op] at hop
    split at hop
    · rename_i hl
      subst hl
      have hopX := Option.bind_eq_some_iff.mp hop
      clear hop
      obtain ⟨q, hq, hop⟩ := hopX
      obtain rfl := pia_e hq
      split at hop
      · rename_i hc
        cases hop
        exact V_iald hc.1 (in_of hc.2.1 hc.2.2) hd K
      · cases hop
    · cases hop
  | baload =>
    simp only [op] at hop
    split at hop
    · rename_i hl
      subst hl
      have hopX := Option.bind_eq_some_iff.mp hop
      clear hop
      obtain ⟨q, hq, hop⟩ := hopX
      obtain rfl := pia_e hq
      split at hop
      · rename_i hc
        cases hop
        exact V_zald hc.1 (in_of hc.2.1 hc.2.2) hd K
      · cases hop
    · cases hop
  | aaload =>
    simp only [op] at hop
    split at hop
    · rename_i hl
      subst hl
      have hopX := Option.bind_eq_some_iff.mp hop
      clear hop
      obtain ⟨q, hq, hop⟩ := hopX
      obtain rfl := pia_e hq
      split at hop
      · rename_i hc
        have hopX := Option.bind_eq_some_iff.mp hop
        clear hop
        obtain ⟨k, hk, hop⟩ := hopX
        cases hop
        exact V_aald hc.1 (in_of hc.2.1 hc.2.2) hk hd K
      · cases hop
    · cases hop
  | iastore =>
    simp only [op] at hop
    split at hop
    · rename_i hl
      subst hl
      have hopX := Option.bind_eq_some_iff.mp hop
      clear hop
      obtain ⟨q, hq, hop⟩ := hopX
      obtain rfl := piia_e hq
      split at hop
      · rename_i hc
        cases hop
        exact V_iast hc.1 (in_of hc.2.1 hc.2.2) hd K
      · cases hop
    · cases hop
  | bastore =>
    simp only [op] at hop
    split at hop
    · rename_i hl
      subst hl
      have hopX := Option.bind_eq_some_iff.mp hop
      clear hop
      obtain ⟨q, hq, hop⟩ := hopX
      obtain rfl := piia_e hq
      split at hop
      · rename_i hc
        cases hop
        exact V_zast hc.1.1 (in_of hc.1.2.1 hc.1.2.2) hc.2 hd K
      · cases hop
    · cases hop
  | arraylength =>
    simp only [op] at hop
    split at hop
    · rename_i hl
      subst hl
      have hopX := Option.bind_eq_some_iff.mp hop
      clear hop
      obtain ⟨q, hq, hop⟩ := hopX
      obtain rfl := pa_e hq
      split at hop
      · rename_i hc
        cases hop
        exact V_alen hc hd K
      · cases hop
    · cases hop
  | invokevirtual i =>
    simp only [op] at hop
    split at hop
    · rename_i hl
      subst hl
      split at hop
      · rename_i y' hm
        have hopX := Option.bind_eq_some_iff.mp hop
        clear hop
        obtain ⟨q, hq, hop⟩ := hopX
        obtain ⟨rfl, hn, hir⟩ := pn_e hq
        have hopX := Option.bind_eq_some_iff.mp hop
        clear hop
        obtain ⟨r, hr, hop⟩ := hopX
        have hr := pa_e hr
        split at hop
        · rename_i hc
          cases hop
          obtain ⟨Ψ, K1, K2⟩ := K (mr_spec hm).1
          rw [hr]
          exact V_callV hm hc.1 hc.2.1 hn hir hc.2.2.2.1 hc.2.2.2.2 hd hc.2.2.1 K1 K2
        · cases hop
      · have hopX := Option.bind_eq_some_iff.mp hop
        clear hop
        obtain ⟨z, hz, hop⟩ := hopX
        split at hop
        · rename_i h0
          subst h0
          have hopX := Option.bind_eq_some_iff.mp hop
          clear hop
          obtain ⟨q, hq, hop⟩ := hopX
          obtain rfl := pa_e hq
          split at hop
          · rename_i hc
            cases hop
            have e1 : q.1 = 700 + (q.1 - 700) := by omega
            rw [e1]
            exact V_len hStr hz (by omega) hc.2.2.1 hc.2.2.2 hd K
          · cases hop
        · split at hop
          · rename_i h0
            subst h0
            have hopX := Option.bind_eq_some_iff.mp hop
            clear hop
            obtain ⟨q, hq, hop⟩ := hopX
            obtain rfl := pia_e hq
            split at hop
            · rename_i hc
              cases hop
              have e1 : q.2.1 = 700 + (q.2.1 - 700) := by omega
              rw [e1]
              exact V_chr hStr hz (by omega) (in_of hc.2.2.1.1 hc.2.2.1.2) hc.2.2.2.1 hc.2.2.2.2 hd K
            · cases hop
          · cases hop
    · cases hop
  | invokestatic i =>
    simp only [op] at hop
    split at hop
    · rename_i hl
      subst hl
      split at hop
      · rename_i y' hm
        have hopX := Option.bind_eq_some_iff.mp hop
        clear hop
        obtain ⟨q, hq, hop⟩ := hopX
        obtain ⟨rfl, hn, hir⟩ := pn_e hq
        split at hop
        · rename_i hc
          cases hop
          obtain ⟨Ψ, K1, K2⟩ := K (mr_spec hm).1
          exact V_callS hm hc.1 hn hir hc.2.1 hc.2.2 hd K1 K2
        · cases hop
      · have hopX := Option.bind_eq_some_iff.mp hop
        clear hop
        obtain ⟨z, hz, hop⟩ := hopX
        split at hop
        · rename_i h0
          subst h0
          have hopX := Option.bind_eq_some_iff.mp hop
          clear hop
          obtain ⟨q, hq, hop⟩ := hopX
          obtain rfl := pcp_e hq
          split at hop
          · rename_i hc
            cases hop
            obtain ⟨⟨a1, a2⟩, ⟨a3, a4, a5⟩, ⟨a6, a7⟩, a8, a9⟩ := hc
            exact V_copy hz a1 a2 a3 a4 a5 a6 a7 a8 a9 hd K
          · cases hop
        · cases hop
    · cases hop
  | ireturn =>
    simp only [op] at hop
    split at hop
    · rename_i hl
      subst hl
      split at hop
      · rename_i v
        split at hop
        · rename_i hc
          cases hop
          rcases hc with hc | hc
          · exact V_iret hc K hd
          · exact V_zret hc.1 hc.2 K hd
        · cases hop
      · cases hop
    · cases hop
  | return_ =>
    simp only [op] at hop
    split at hop
    · rename_i hl
      subst hl
      split at hop
      · split at hop
        · rename_i hc
          cases hop
          exact V_vret hc K hd
        · cases hop
      · cases hop
    · cases hop
  | areturn =>
    simp only [op] at hop
    split at hop
    · rename_i hl
      subst hl
      split at hop
      · rename_i k
        split at hop
        · rename_i hc
          cases hop
          exact V_aret hc K hd
        · cases hop
      · cases hop
    · cases hop
  | _ => cases hop
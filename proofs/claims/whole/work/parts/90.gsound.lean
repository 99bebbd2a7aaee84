set_option maxHeartbeats 4000000 in
set_option maxRecDepth 100000 in
theorem gop_sound {l : Launch} {D : va_G} {cA : Nat → ClassId} {S0 t g pc : Nat} {ls st : List Value} {G G' : List GE} {c s : Nat} {ins : Instr} {len : Nat} {a : GAct} (hg : g < 11)
    (hd : decode (gCd g) pc = .ok (ins, len)) (hop : gop g pc ls st G c s ins len = some a) (K : GKont l D cA S0 t g pc ls G c s G' a) : VG l D cA S0 t g pc ls st G c s G' := by
  cases ins with
  | iconst n =>
    simp only [gop] at hop
    split at hop
    case isFalse => cases hop
    rename_i hl
    subst hl
    cases hop
    exact VG_iconst hd K
  | bipush n =>
    simp only [gop] at hop
    split at hop
    case isFalse => cases hop
    rename_i hl
    subst hl
    cases hop
    exact VG_bipush hd K
  | sipush n =>
    simp only [gop] at hop
    split at hop
    case isFalse => cases hop
    rename_i hl
    subst hl
    cases hop
    exact VG_sipush hd K
  | iload_n i =>
    simp only [gop] at hop
    split at hop
    case isFalse => cases hop
    rename_i hl
    subst hl
    obtain ⟨x, hx, hop⟩ := Option.bind_eq_some_iff.mp (id hop)
    cases hop
    exact VG_iload_n (ldI_e hx) hd K
  | aload_n i =>
    simp only [gop] at hop
    split at hop
    case isFalse => cases hop
    rename_i hl
    subst hl
    obtain ⟨x, hx, hop⟩ := Option.bind_eq_some_iff.mp (id hop)
    cases hop
    exact VG_aload_n (ldA_e hx) hd K
  | istore_n i =>
    simp only [gop] at hop
    split at hop
    case isFalse => cases hop
    rename_i hl
    obtain ⟨rfl, hi⟩ := hl
    obtain ⟨q, hq, hop⟩ := Option.bind_eq_some_iff.mp (id hop)
    cases hop
    rw [p1_e hq]
    exact VG_istore_n hi hd K
  | astore_n i =>
    simp only [gop] at hop
    split at hop
    case isFalse => cases hop
    rename_i hl
    obtain ⟨rfl, hi⟩ := hl
    obtain ⟨q, hq, hop⟩ := Option.bind_eq_some_iff.mp (id hop)
    cases hop
    rw [pa_e hq]
    exact VG_astore_n hi hd K
  | iinc i n =>
    simp only [gop] at hop
    split at hop
    case isFalse => cases hop
    rename_i hl
    obtain ⟨rfl, hi⟩ := hl
    obtain ⟨x, hx, hop⟩ := Option.bind_eq_some_iff.mp (id hop)
    cases hop
    exact VG_iinc hi (ldI_e hx) hd K
  | iadd =>
    simp only [gop] at hop
    split at hop
    case isFalse => cases hop
    rename_i hl
    subst hl
    obtain ⟨q, hq, hop⟩ := Option.bind_eq_some_iff.mp (id hop)
    cases hop
    rw [p2_e hq]
    exact VG_iadd hd K
  | imul =>
    simp only [gop] at hop
    split at hop
    case isFalse => cases hop
    rename_i hl
    subst hl
    obtain ⟨q, hq, hop⟩ := Option.bind_eq_some_iff.mp (id hop)
    cases hop
    rw [p2_e hq]
    exact VG_imul hd K
  | dup =>
    simp only [gop] at hop
    split at hop
    case isFalse => cases hop
    rename_i hl
    subst hl
    obtain ⟨q, hq, hop⟩ := Option.bind_eq_some_iff.mp (id hop)
    cases hop
    rw [(pv1_e hq).1]
    exact VG_dup (pv1_e hq).2 hd K
  | goto off =>
    simp only [gop] at hop
    split at hop
    case isFalse => cases hop
    rename_i hl
    subst hl
    obtain ⟨x, hx, hop⟩ := Option.bind_eq_some_iff.mp (id hop)
    cases hop
    exact VG_goto (jmp_e hx) hd K
  | if_icmp o off =>
    simp only [gop] at hop
    cases o with
    | ge =>
      simp only [] at hop
      split at hop
      case isFalse => cases hop
      rename_i hl
      subst hl
      obtain ⟨q, hq, hop⟩ := Option.bind_eq_some_iff.mp (id hop)
      obtain ⟨x, hx, hop⟩ := Option.bind_eq_some_iff.mp (id hop)
      rw [p2_e hq]
      split at hop
      · rename_i hle
        cases hop
        exact VG_icmp (jmp_e hx) hd (fun _ => K) (fun h => absurd hle h)
      · rename_i hle
        cases hop
        exact VG_icmp (jmp_e hx) hd (fun h => absurd h hle) (fun _ => K)
    | _ => cases hop
  | getfield i =>
    simp only [gop] at hop
    split at hop
    case isFalse => cases hop
    rename_i hl
    subst hl
    obtain ⟨q, hq, hop⟩ := Option.bind_eq_some_iff.mp (id hop)
    obtain ⟨f, hf, hop⟩ := Option.bind_eq_some_iff.mp (id hop)
    obtain ⟨x, hx, hop⟩ := Option.bind_eq_some_iff.mp (id hop)
    split at hop
    case isFalse => cases hop
    rename_i hc
    obtain ⟨v, hv, hop⟩ := Option.bind_eq_some_iff.mp (id hop)
    cases hop
    rw [pa_e hq]
    have hx := gobj_e hx
    rw [hc] at hx
    exact VG_getf hf hx hv hd K
  | putfield i =>
    simp only [gop] at hop
    split at hop
    case isFalse => cases hop
    rename_i hl
    subst hl
    split at hop
    · rename_i q hq
      obtain ⟨f, hf, hop⟩ := Option.bind_eq_some_iff.mp (id hop)
      obtain ⟨x, hx, hop⟩ := Option.bind_eq_some_iff.mp (id hop)
      split at hop
      case isFalse => cases hop
      rename_i hc
      cases hop
      rw [pia_e hq]
      have hx := gobj_e hx
      rw [hc.1] at hx
      exact VG_puti hf hx hc.2.1 hc.2.2 hd K
    · obtain ⟨q, hq, hop⟩ := Option.bind_eq_some_iff.mp (id hop)
      obtain ⟨f, hf, hop⟩ := Option.bind_eq_some_iff.mp (id hop)
      obtain ⟨x, hx, hop⟩ := Option.bind_eq_some_iff.mp (id hop)
      split at hop
      case isFalse => cases hop
      rename_i hc
      cases hop
      rw [prr_e hq]
      have hx := gobj_e hx
      rw [hc.2.1] at hx
      obtain ⟨f1, f2⟩ := f
      obtain ⟨⟨hg9, rfl⟩, hc2⟩ := hc
      exact VG_putr hg9 hf hx hc2.2.1 hc2.2.2 hd K
  | iaload =>
    simp only [gop] at hop
    split at hop
    case isFalse => cases hop
    rename_i hl
    subst hl
    obtain ⟨q, hq, hop⟩ := Option.bind_eq_some_iff.mp (id hop)
    obtain ⟨xs, hx, hop⟩ := Option.bind_eq_some_iff.mp (id hop)
    split at hop
    case isFalse => cases hop
    rename_i hc
    cases hop
    rw [pia_e hq]
    exact VG_iald (gint_e hx) (in_of hc.1 hc.2) hd K
  | iastore =>
    simp only [gop] at hop
    split at hop
    case isFalse => cases hop
    rename_i hl
    subst hl
    obtain ⟨q, hq, hop⟩ := Option.bind_eq_some_iff.mp (id hop)
    obtain ⟨xs, hx, hop⟩ := Option.bind_eq_some_iff.mp (id hop)
    split at hop
    case isFalse => cases hop
    rename_i hc
    cases hop
    rw [piia_e hq]
    exact VG_iast (gint_e hx) (in_of hc.1 hc.2) hd K
  | arraylength =>
    simp only [gop] at hop
    split at hop
    case isFalse => cases hop
    rename_i hl
    subst hl
    obtain ⟨q, hq, hop⟩ := Option.bind_eq_some_iff.mp (id hop)
    obtain ⟨xs, hx, hop⟩ := Option.bind_eq_some_iff.mp (id hop)
    cases hop
    rw [pa_e hq]
    exact VG_alen (gint_e hx) hd K
  | aaload =>
    simp only [gop] at hop
    split at hop
    case isFalse => cases hop
    rename_i hl
    subst hl
    obtain ⟨q, hq, hop⟩ := Option.bind_eq_some_iff.mp (id hop)
    obtain ⟨x, hx, hop⟩ := Option.bind_eq_some_iff.mp (id hop)
    obtain ⟨e, he, hop⟩ := Option.bind_eq_some_iff.mp (id hop)
    split at hop
    case isFalse => cases hop
    rename_i hc
    obtain ⟨r, hr, hop⟩ := Option.bind_eq_some_iff.mp (id hop)
    cases hop
    rw [pia_e hq]
    obtain ⟨e1, e2⟩ := e
    obtain ⟨h1, h2⟩ := fnd he
    have h3 : e1 = x.1 := by simpa using h2
    rw [h3] at h1
    exact VG_aald h1 (gref_e hx) (in_of hc.1 hc.2) hr hd K
  | aastore =>
    simp only [gop] at hop
    split at hop
    case isFalse => cases hop
    rename_i hl
    subst hl
    obtain ⟨q, hq, hop⟩ := Option.bind_eq_some_iff.mp (id hop)
    obtain ⟨x, hx, hop⟩ := Option.bind_eq_some_iff.mp (id hop)
    obtain ⟨y, hy, hop⟩ := Option.bind_eq_some_iff.mp (id hop)
    split at hop
    case isFalse => cases hop
    rename_i hc
    cases hop
    rw [paia_e hq]
    exact VG_aast hc.1 (gref_e hx) (gobj_e hy) (in_of hc.2.1 hc.2.2) hd K
  | newarray ty =>
    simp only [gop] at hop
    cases ty with
    | int =>
      simp only [] at hop
      split at hop
      case isFalse => cases hop
      rename_i hl
      subst hl
      obtain ⟨q, hq, hop⟩ := Option.bind_eq_some_iff.mp (id hop)
      split at hop
      case isFalse => cases hop
      rename_i hc
      cases hop
      rw [p1_e hq]
      obtain ⟨o1, o2, o3⟩ := okB_e hc.2
      exact VG_newi hc.1.1 rfl hc.1.2.1 hc.1.2.2.1 hc.1.2.2.2 o1 o2 o3 hd K
    | boolean =>
      simp only [] at hop
      split at hop
      case isFalse => cases hop
      rename_i hl
      subst hl
      obtain ⟨q, hq, hop⟩ := Option.bind_eq_some_iff.mp (id hop)
      split at hop
      case isFalse => cases hop
      rename_i hc
      cases hop
      rw [p1_e hq]
      obtain ⟨o1, o2, o3⟩ := okB_e hc.2
      exact VG_newz hc.1.1 rfl hc.1.2.1 hc.1.2.2.1 hc.1.2.2.2 o1 o2 o3 hd K
    | _ => cases hop
  | anewarray i =>
    simp only [gop] at hop
    split at hop
    case isFalse => cases hop
    rename_i hl
    subst hl
    obtain ⟨q, hq, hop⟩ := Option.bind_eq_some_iff.mp (id hop)
    obtain ⟨ci, hci, hop⟩ := Option.bind_eq_some_iff.mp (id hop)
    obtain ⟨e, he, hop⟩ := Option.bind_eq_some_iff.mp (id hop)
    split at hop
    case isFalse => cases hop
    rename_i hc
    cases hop
    rw [p1_e hq]
    obtain ⟨o1, o2, o3⟩ := okB_e hc.2
    obtain ⟨e1, e2⟩ := e
    obtain ⟨h1, h2⟩ := fnd he
    have h3 : e2 = ci := by simpa using h2
    rw [h3] at h1
    exact VG_newr h1 (CNk_ok _ (lk3_e hci)).1 hc.1.1 rfl hc.1.2.1 hc.1.2.2.1 hc.1.2.2.2 o1 o2 o3 hd K
  | new i =>
    simp only [gop] at hop
    split at hop
    case isFalse => cases hop
    rename_i hl
    subst hl
    obtain ⟨ci, hci, hop⟩ := Option.bind_eq_some_iff.mp (id hop)
    split at hop
    case isFalse => cases hop
    rename_i hc
    cases hop
    obtain ⟨o1, o2, o3⟩ := okB_e hc.2
    exact VG_new (CNk_ok _ (lk3_e hci)).2 (CNk_ok _ (lk3_e hci)).1 hc.1.1 hc.1.2 o1 o2 o3 hd K
  | getstatic i =>
    simp only [gop] at hop
    split at hop
    case isFalse => cases hop
    rename_i hc
    cases hop
    obtain ⟨⟨rfl, rfl⟩, hc1, hc2, hc3⟩ := hc
    obtain ⟨o1, o2, o3⟩ := okB_e hc3
    exact VG_clone hc1.1 hc1.2 hc2 o1 o2 o3 K
  | invokespecial i =>
    simp only [gop] at hop
    split at hop
    case isFalse => cases hop
    rename_i hl
    subst hl
    split at hop
    · rename_i z hz
      obtain ⟨q, hq, hop⟩ := Option.bind_eq_some_iff.mp (id hop)
      split at hop
      case isFalse => cases hop
      rename_i hc
      cases hop
      rw [pa_e hq]
      exact VG_oinit (OIk_ok _ (lk3_e hz)) hc.1 hc.2 hd K
    · split at hop
      · rename_i g' hg'
        obtain ⟨q, hq, hop⟩ := Option.bind_eq_some_iff.mp (id hop)
        obtain ⟨r, hr, hop⟩ := Option.bind_eq_some_iff.mp (id hop)
        split at hop
        case isFalse => cases hop
        rename_i hc
        cases hop
        obtain ⟨e1, e2, e3⟩ := pn_e hq
        obtain ⟨G1, ⟨k1, k2, k3⟩, k4, k5⟩ := K
        rw [e1, pa_e hr]
        have hL := NLk_ok _ (lk3_e hg')
        exact VG_callN hL.2 ⟨lk3_e hg', hL.1⟩ e2 e3 (by rw [e2]; exact hc.1.1) hc.1.2 hc.2.1 hc.2.2 hd k1 k2 k3 k4 k5
      · obtain ⟨g', hg', hop⟩ := Option.bind_eq_some_iff.mp (id hop)
        obtain ⟨q, hq, hop⟩ := Option.bind_eq_some_iff.mp (id hop)
        obtain ⟨r, hr, hop⟩ := Option.bind_eq_some_iff.mp (id hop)
        split at hop
        case isFalse => cases hop
        rename_i hc
        cases hop
        obtain ⟨e1, e2, e3⟩ := pn_e hq
        obtain ⟨G1, ⟨k1, k2, k3⟩, k4, k5⟩ := K
        rw [e1, pa_e hr]
        have hL := MIk_ok _ (lk3_e hg')
        exact VG_callI hL.2.2 ⟨hL.1, hL.2.1⟩ e2 e3 (by rw [e2]; exact hc.1.1) hc.1.2 hc.2.1 hc.2.2 hd k1 k2 k3 k4 k5
  | invokestatic i =>
    simp only [gop] at hop
    split at hop
    case isFalse => cases hop
    rename_i hc
    obtain ⟨q, hq, hop⟩ := Option.bind_eq_some_iff.mp (id hop)
    split at hop
    case isFalse => cases hop
    rename_i hc2
    cases hop
    obtain ⟨⟨rfl, rfl, hg4⟩, hcs⟩ := hc
    obtain ⟨G1, ⟨k1, k2, k3⟩, k4, k5⟩ := K
    rw [pia_e hq]
    exact VG_fill hc2 hg4 hcs hd k1 k2 k3 k4 k5
  | invokevirtual i =>
    simp only [gop] at hop
    split at hop
    case isFalse => cases hop
    rename_i hc
    obtain ⟨q, hq, hop⟩ := Option.bind_eq_some_iff.mp (id hop)
    obtain ⟨x, hx, hop⟩ := Option.bind_eq_some_iff.mp (id hop)
    split at hop
    case isFalse => cases hop
    rename_i hc2
    cases hop
    obtain ⟨⟨rfl, rfl, hg8⟩, hcs⟩ := hc
    obtain ⟨G1, ⟨k1, k2, k3⟩, k4, k5⟩ := K
    rw [pia_e hq]
    have hx := gobj_e hx
    rw [hc2.1] at hx
    exact VG_fresh hx hc2.2 hg8 hcs hd k1 k2 k3 k4 k5
  | return_ =>
    simp only [gop] at hop
    split at hop
    case isFalse => cases hop
    rename_i hc
    obtain ⟨rfl, hcs⟩ := hc
    split at hop
    · cases hop
      cases K
      exact VG_ret hcs hd
    · cases hop
  | _ => cases hop
theorem gexec_VG {l : Launch} {D : va_G} {cA : Nat → ClassId} {S0 t : Nat} : ∀ (n g pc : Nat) (ls st : List Value) (G : List GE) (c s : Nat) (G' : List GE), g < 11 → gexec n g pc ls st G c s = some G' → VG l D cA S0 t g pc ls st G c s G' := by
  intro n
  induction n with
  | zero => intro g pc ls st G c s G' hg he; cases he
  | succ n ih =>
    intro g pc ls st G c s G' hg he
    unfold gexec at he
    split at he
    · cases he
    · rename_i ins len hlk
      have hd := look_ok (gI_ok g hg) hlk
      split at he
      · cases he
      · rename_i pc' ls' st' G1 c' s' hop
        exact gop_sound hg hd hop (ih g pc' ls' st' G1 c' s' G' hg he)
      · rename_i hop
        cases he
        exact gop_sound hg hd hop rfl
      · rename_i g' as st' hop
        obtain ⟨G1, h1, h2⟩ := Option.bind_eq_some_iff.mp he
        split at h2
        · rename_i hc
          by_cases hg' : g' < 11
          · exact gop_sound hg hd hop ⟨G1, hc, ih g' 0 _ [] G 0 0 G1 hg' h1, ih g (pc + 3) ls st' G1 _ _ G' hg h2⟩
          · have h0 : look (gIs g') 0 = none := by
              unfold gIs
              rw [List.getD_eq_getElem?_getD, List.getElem?_eq_none (by simpa using hg')]
              rfl
            cases n with
            | zero => cases h1
            | succ n =>
              unfold gexec at h1
              rw [h0] at h1
              cases h1
        · cases h2

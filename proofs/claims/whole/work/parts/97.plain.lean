/-! ===== tests: plain ones ===== -/
def dNt : Nat → pD → pD
  | 0, D => D
  | j + 1, D => dNot (dNt j D)
theorem dNot2 (D : pD) : dNot (dNot D) = D := by
  funext K
  unfold dNot
  cases e : D K with
  | none => rfl
  | some v =>
    show some (nI 1 - (nI 1 - v)) = some v
    congr 1
    rw [Int32.sub_eq_add_neg, Int32.neg_sub, Int32.add_comm, Int32.sub_add_cancel]
theorem dNt_par (D : pD) : ∀ j, dNt j D = if j % 2 = 1 then dNot D else D
  | 0 => rfl
  | j + 1 => by
    rw [dNt, dNt_par D j]
    by_cases h : j % 2 = 1
    · rw [if_pos h, if_neg (by omega), dNot2]
    · rw [if_neg h, if_pos (by omega)]
theorem dT.not {D : pD} (h : dT D) : dT (dNot D) := by
  intro K v hv
  unfold dNot at hv
  cases e : D K with
  | none => rw [e] at hv; exact absurd hv (by simp)
  | some w =>
    rw [e] at hv
    have hv' : nI 1 - w = v := Option.some.inj hv
    rcases h K w e with rfl | rfl
    · exact Or.inr hv'.symm
    · exact Or.inl hv'.symm
theorem dT.nt {D : pD} (h : dT D) : ∀ j, dT (dNt j D)
  | 0 => h
  | j + 1 => (dT.nt h j).not
theorem pBd_01 {v : Int32} (h : v = nI 0 ∨ v = nI 1) : pBd v := by
  rcases h with rfl | rfl <;> (unfold pBd; decide)
theorem okD.not {D : pD} (h : okD D) (hT : dT D) : okD (dNot D) := ⟨fun K K' hK => by unfold dNot; rw [h.1 K K' hK], fun K v _ hv => pBd_01 (hT.not K v hv)⟩
theorem okD.nt {D : pD} (h : okD D) (hT : dT D) : ∀ j, okD (dNt j D)
  | 0 => h
  | j + 1 => (okD.nt h hT j).not (hT.nt j)
theorem PdR.not {md : Bool} {X X1 : Cd} {pend : List (Nat × Nat)} {h h1 d : Nat} {D : pD} (H : PdR md X X1 pend (h + 1) h1 3 d D) (hd : 0 < d) (hT : dT D) : PdR md X X1 (pend ++ [(28, 0)]) h h1 3 d (dNot D) := by
  obtain ⟨a1, a2, a3, a4, a5⟩ := H
  have ee : ems X1 (pend ++ [(28, 0)]) = emt (ems X1 pend) 28 0 := by
    rw [ems_app, ems, ems, em1_op (by decide)]
  have l1 := a3.1
  unfold PdR
  rw [ee]
  generalize ems X1 pend = Y at *
  have u1 : ∀ i, i < Y.2.2 → (emt Y 28 0).1 i = Y.1 i ∧ (emt Y 28 0).2.1 i = Y.2.1 i := fun i hi => ⟨am_up_ne (by omega), am_up_ne (by omega)⟩
  refine ⟨fun q hq => ?_, ?_, ?_, fun i hi => ?_, ?_⟩
  · rcases List.mem_append.mp hq with z | z
    · exact a1 q z
    · rw [List.mem_singleton.mp z]; decide
  · rw [List.length_append, List.length_singleton]; omega
  · have s1 : SegR md (emt Y 28 0).1 (emt Y 28 0).2.1 X.2.2 Y.2.2 d D := a3.mono (Nat.le_refl _) (fun i _ hi => u1 i hi)
    exact s1.not hd hT (by show am_up Y.1 Y.2.2 28 Y.2.2 = 28; rw [am_up_eq])
  · rw [(u1 i (by omega)).1, (u1 i (by omega)).2]
    exact a4 i hi
  · show Y.2.2 + 1 + h ≤ X.2.2 + h1
    omega
theorem PdR.nots {md : Bool} {X X1 : Cd} {pend : List (Nat × Nat)} {h1 d : Nat} {D : pD} (hd : 0 < d) (hT : dT D) : ∀ (j h : Nat), PdR md X X1 pend (h + j) h1 3 d D → PdR md X X1 (pend ++ List.replicate j (28, 0)) h h1 3 d (dNt j D)
  | 0, h, H => by rw [List.replicate_zero, List.append_nil]; exact H
  | j + 1, h, H => by
    have H1 := PdR.nots hd hT j (h + 1) (by rw [show h + 1 + j = h + (j + 1) by omega]; exact H)
    rw [List.replicate_succ', ← List.append_assoc]
    exact H1.not hd (hT.nt j)
section SIM6
variable {md : Bool} {b : Nat → Nat} {len : Nat} {a1 : Int32}
def KP (rec : Nat → Int32 → am_G → Option (Int32 × am_G)) (x16 : Int32) (g17 : am_G) : Option (Int32 × am_G) :=
    am_gd (am_in (am_I g17 29 7) 401) <|
    am_jn (fun (x20 : Int32) (g21 : am_G) =>
      if x16 = 0 then (
        am_gd (am_zb x20) <|
        some (x20, g21))
      else (
        am_bd (fX5_addStep (3 : Int32) (0 : Int32) g21) fun u25 g26 =>
        am_gd (am_zb x20) <|
        some (x20, g26))) fun j22 =>
    if (am_I g17 31 (am_I g17 29 7).toNatClampNeg) = (168 : Int32) then (
      am_bd (rec 3 (41 : Int32) g17) fun v32 g33 =>
      j22 v32 g33)
    else (
      am_bd (rec 4 0 g17) fun v29 g30 =>
      j22 v29 g30)
theorem KP_eq (rec : Nat → Int32 → am_G → Option (Int32 × am_G)) (g : am_G) : bX5_readPlain rec g = fX5_readPlain_L4 rec (KP rec) am_fu 0 0 g := by
  unfold bX5_readPlain
  refine congrArg (fun K => fX5_readPlain_L4 rec K am_fu 0 0 g) ?_
  rfl
/-- the words "not" -/
theorem notL (hT : Tp b len) {f : Nat} {h u p bk : Nat} {X : Cd} {base : List (Nat × Nat)} {gc gr : am_G} (hpre : PreP md b len 3 h u p bk X base gc gr) : ∀ (m n j : Nat) (gc' gr' : am_G), 400 - (h + j) ≤ m → m < n → CS md b len (h + j) u p bk gc' → RS md b len (h + j) X p bk (List.replicate j (28, 0) ++ base) gr' → FcP gc gc' → am_I gc' 35 = am_I gc 35 → Rn a1 j (nI 0) gr (nI 0) gr' → FrP gr gr' → ∃ j' gc2 gr2, fX5_readPlain_L4 (fX5_rd f) (KP (fX5_rd f)) n (nI (j % 2)) (nI j) gc' = KP (fX5_rd f) (nI (j' % 2)) gc2 ∧ tkF b len (h + j') ≠ 10 ∧ CS md b len (h + j') u p bk gc2 ∧ RS md b len (h + j') X p bk (List.replicate j' (28, 0) ++ base) gr2 ∧ FcP gc gc2 ∧ am_I gc2 35 = am_I gc 35 ∧ Rn a1 j' (nI 0) gr (nI 0) gr2 ∧ FrP gr gr2 := by
  intro m
  induction m with
  | zero =>
    intro n j gc' gr' hm hn c r fc k rn fr
    obtain ⟨n, rfl⟩ : ∃ n', n = n' + 1 := ⟨n - 1, by omega⟩
    have hb := c.2.2.2.2.2.2.b hT
    have ht : tkF b len (h + j) ≠ 10 := fun z => by
      have := (c.2.2.2.2.2.2.nx (by omega)).b hT
      omega
    refine ⟨j, gc', gr', ?_, ht, c, r, fc, k, rn, fr⟩
    have hl1 := hpre.2.2.1
    rw [fX5_readPlain_L4, if_neg (show ¬ (400 : Int32) ≤ nI j from nI_ge (a := j) (b := 400) (by omega) (by decide)), show (10 : Int32) = nI 10 from rfl, q5_passF hT c ht (by decide), pu_bd, if_pos (show nI 0 = (0 : Int32) from rfl)]
  | succ m ih =>
    intro n j gc' gr' hm hn c r fc k rn fr
    obtain ⟨n, rfl⟩ : ∃ n', n = n' + 1 := ⟨n - 1, by omega⟩
    have hb := c.2.2.2.2.2.2.b hT
    obtain ⟨-, -, l1, l2, l3, l4, l5, l6⟩ := hpre
    by_cases ht : tkF b len (h + j) = 10
    · obtain ⟨pa, ca⟩ := q5_passT hT c ht (by decide)
      have hb1 := ca.2.2.2.2.2.2.b hT
      have emr : ∀ i, emc (List.replicate i (28, 0) ++ base) = i + emc base := by
        intro i
        rw [emc_app]
        congr 1
        induction i with
        | zero => rfl
        | succ i ih2 => rw [List.replicate_succ, emc_op (by decide), ih2]
      obtain ⟨gr2, e1, r1, f1⟩ := PL_not hT r ht (by rw [List.length_append, List.length_replicate]; omega) (by rw [emr]; omega)
      obtain ⟨j', gc2, gr3, z⟩ := ih n (j + 1) _ gr2 (by omega) (by omega) ca (by rw [List.replicate_succ]; exact r1) (fc.tr ((FcP.rf gc').si (by omega) _)) (by rw [pI_si_ne _ _ _ (by decide)]; exact k) (rn.tr (L20_0 r.2.2.1 e1)) (fr.tr f1)
      refine ⟨j', gc2, gr3, ?_, z.2⟩
      rw [← z.1, fX5_readPlain_L4, if_neg (show ¬ (400 : Int32) ≤ nI j from nI_ge (a := j) (b := 400) (by omega) (by decide)), show (10 : Int32) = nI 10 from rfl, pa, pu_bd, if_neg (show ¬ nI 1 = (0 : Int32) by decide), pu_jn]
      by_cases hj : j % 2 = 0
      · rw [hj, if_pos (show nI 0 = (0 : Int32) from rfl), show (j + 1) % 2 = 1 by omega]
        dsimp only
        rw [pu_let, show nI j + (1 : Int32) = nI (j + 1) from nI_add j 1]
        rfl
      · rw [show j % 2 = 1 by omega, if_neg (show ¬ nI 1 = (0 : Int32) by decide), show (j + 1) % 2 = 0 by omega]
        dsimp only
        rw [pu_let, show nI j + (1 : Int32) = nI (j + 1) from nI_add j 1]
        rfl
    · refine ⟨j, gc', gr', ?_, ht, c, r, fc, k, rn, fr⟩
      rw [fX5_readPlain_L4, if_neg (show ¬ (400 : Int32) ≤ nI j from nI_ge (a := j) (b := 400) (by omega) (by decide)), show (10 : Int32) = nI 10 from rfl, q5_passF hT c ht (by decide), pu_bd, if_pos (show nI 0 = (0 : Int32) from rfl)]
theorem plain_of (hT : Tp b len) {f : Nat} (hS : TestOK md b len a1 f) : PlainOK md b len a1 (f + 2) := by
  intro h u p bk X base gc gr hpre hin hf
  have hC : CmpOK md b len a1 (f + 1) := cmp_of hT f
  obtain ⟨hc, hr, l1, l2, l3, l4, l5, l6⟩ := id hpre
  have hrd : fX5_rd (f + 2) 2 0 gc = bX5_readPlain (fX5_rd (f + 1)) gc := by rw [fX5_rd, rdB]
  have hbr : ∀ g, fX5_rd (f + 1) 3 (nI 41) g = bX5_readBracket (fX5_rd f) (nI 41) g := fun _ => rfl
  obtain ⟨j, gcj, grj, ej, tj, cj, rj, fcj, kj, rnj, frj⟩ := notL (a1 := a1) (f := f + 1) hT hpre 400 am_fu 0 gc gr (by omega) (by have : am_fu = 1048576 := rfl; omega) (by rw [Nat.add_zero]; exact hc) (by rw [Nat.add_zero]; exact hr) (FcP.rf gc) rfl (Rn.rf _ _ _) (FrP.rf gr)
  have hRj := cj.2.2.2.2.2.2
  have hbj := hRj.b hT
  have hltj := tk_lt (i := h + j) hT
  have hst : fX5_rd (f + 2) 2 0 gc = KP (fX5_rd (f + 1)) (nI (j % 2)) gcj := by
    have e2 : fX5_readPlain_L4 (fX5_rd (f + 1)) (KP (fX5_rd (f + 1))) am_fu 0 0 gc = fX5_readPlain_L4 (fX5_rd (f + 1)) (KP (fX5_rd (f + 1))) am_fu (nI (0 % 2)) (nI 0) gc := by
      have a1 : (0 : Int32) = nI 0 := rfl
      have a2 : nI (0 % 2) = nI 0 := rfl
      rw [a2, ← a1]
    rw [hrd, KP_eq, e2, ej]
  have b3 : ∀ q ∈ List.replicate j ((28, 0) : Nat × Nat), bnd q.1 = 3 := fun q hq => by rw [List.eq_of_mem_replicate hq]; rfl
  have tbj : tb (List.replicate j (28, 0) ++ base) 4 := by
    cases j with
    | zero => rw [List.replicate_zero, List.nil_append]; exact l6.le (by decide)
    | succ j =>
      intro q l e
      rw [List.replicate_succ, List.cons_append] at e
      injection e with e1 e2
      rw [← e1]
      decide
  have inj : inT a1 (List.replicate j (28, 0) ++ base) := inT_app hin (fun q hq => by rw [b3 q hq]; decide)
  have lnj : (List.replicate j ((28, 0) : Nat × Nat) ++ base).length = j + base.length := by rw [List.length_append, List.length_replicate]
  have emj : emc (List.replicate j (28, 0) ++ base) = j + emc base := by
    rw [emc_app]
    congr 1
    clear ej tj cj rj fcj kj rnj frj hRj hbj hltj hst b3 tbj inj lnj
    induction j with
    | zero => rfl
    | succ i ih2 => rw [List.replicate_succ, emc_op (by decide), ih2]
  -- what is told behind the "not"s
  have core : FlR b len a1 (if tkF b len (h + j) = 168 then fX5_rd (f + 1) 3 (nI 41) gcj else fX5_rd (f + 1) 4 0 gcj) (h + j) (nI 0) gcj grj ∨ OkR md b len a1 (if tkF b len (h + j) = 168 then fX5_rd (f + 1) 3 (nI 41) gcj else fX5_rd (f + 1) 4 0 gcj) (nI 0) (nI 2) 3 True (fun _ => True) (h + j) u p bk X (List.replicate j (28, 0) ++ base) gcj grj := by
    by_cases h168 : tkF b len (h + j) = 168
    · rw [if_pos h168, hbr]
      have hR1 := hRj.nx (show tkF b len (h + j) ≠ 0 by omega)
      have hb1 := hR1.b hT
      by_cases h8 : bk < 8
      · obtain ⟨gr1, e1, r1, f1⟩ := PL_open hT rj h168 h8 (by omega)
        obtain ⟨c1, fc1, hbre⟩ := CBr_hd (rec := fX5_rd f) cj h8 hR1 (c := 41) (Or.inl rfl)
        rw [if_pos (show 41 = 41 from rfl)] at hbre
        have hk1 : ∀ i, am_I (am_si (am_si gcj 29 9 (nI (bk + 1))) 29 7 (nI (h + j + 1))) 35 i = am_I gcj 35 i := fun i => by rw [pe_ine (by decide), pe_ine (by decide)]
        generalize am_si (am_si gcj 29 9 (nI (bk + 1))) 29 7 (nI (h + j + 1)) = gc1 at *
        have htb : tb ((31, 0) :: (List.replicate j (28, 0) ++ base)) 1 := by intro q l e; injection e with e1 e2; rw [← e1]; decide
        rcases hS (h + j + 1) u p (bk + 1) X ((31, 0) :: (List.replicate j (28, 0) ++ base)) gc1 gr1 ⟨c1, r1, by rw [List.length_cons, lnj]; omega, by rw [emc_an (by decide), emj]; omega, by omega, l4, by omega, htb⟩ (Or.inl rfl) (by omega) with Hf | Ho
        · obtain ⟨h', gc', gr', k, x', z1, z2, z3, z4, z5, z6, z7, z8, z9, z10⟩ := Hf
          refine Or.inl ⟨h', gc', gr', 1 + k, x', ?_, fc1.tr z2, z3, z4, z5, (L20_0 rj.2.2.1 e1).tr z6, by omega, by omega, z9, f1.tr z10⟩
          rw [hbre, z1, pu_bd, if_pos (show nI 0 = (0 : Int32) from rfl)]
          rfl
        · obtain ⟨h', u', p', d, D, gc', gr', X', pend, k, z1, ⟨m1, m2, m3, m4, m5, m6, m7, m8, m9, m10, m11, m12, m13, m14, m15, m16, m17⟩, zn⟩ := Ho.md
          have hlt' := tk_lt (i := h') hT
          have hb' := m2.2.2.2.2.2.2.b hT
          by_cases hq : tkF b len h' = 169
          · obtain ⟨pa, ca⟩ := q5_passT hT m2 hq (by decide)
            obtain ⟨gr2, y1, y2, y3⟩ := BT_close hT m14 m15.1 hq h8
            have fc2 : FcP gc' (am_si (am_si gc' 29 7 (nI (h' + 1))) 29 9 (nI bk)) := ((FcP.rf gc').si (by omega) _).si (by omega) _
            have c2 : CS md b len (h' + 1) u' p' bk (am_si (am_si gc' 29 7 (nI (h' + 1))) 29 9 (nI bk)) := ca.cg ((FcP.rf _).si (by omega) _) (by rw [pe_ik (by decide)]; exact ca.1) (by rw [pe_ik (by decide)]; exact ca.2.1) (by rw [pe_ik (by decide)]; exact ca.2.2.1) (pe_ieq _ _ _ _) ca.2.2.2.2.2.2
            have e35 : am_I (am_si (am_si gc' 29 7 (nI (h' + 1))) 29 9 (nI bk)) 35 = am_I gc' 35 := by rw [pI_si_ne _ _ _ (by decide), pI_si_ne _ _ _ (by decide)]
            obtain ⟨q1, q2, q3, q4, q5⟩ := m15
            refine Or.inr ⟨h' + 1, u', p', d, D, am_si (am_si gc' 29 7 (nI (h' + 1))) 29 9 (nI bk), gr2, ems X' pend, [], 1 + k + 1, ?_, ⟨fc1.tr (m1.tr fc2), c2, by omega, m4, by omega, fun i hi => by rw [e35, m6 i hi, hk1], by rw [e35]; exact m7, m8, m9, m10, ((L20_0 rj.2.2.1 e1).tr m11).tr (L20_2 m14.2.2.1 y1), by omega, f1.tr (m13.tr y3), y2, ⟨fun q hq => (by cases hq), by show 0 + (h + j) ≤ h' + 1; omega, q3, q4, by show (ems X' pend).2.2 + (h + j) ≤ X.2.2 + (h' + 1); omega⟩, m16, m17⟩, trivial⟩
            rw [hbre, z1, pu_bd, if_neg (show ¬ nI 1 = (0 : Int32) by decide), show 128 + 41 = 169 from rfl, pa, pu_bd, if_neg (show ¬ nI 1 = (0 : Int32) by decide), pu_let, ca.2.2.2.1, show nI (bk + 1) - (1 : Int32) = nI bk from nI_ms _]
            rfl
          · obtain ⟨gr2, y1, y2, y3⟩ := BT_closeF m14 zn.1 zn.2 (by rw [inn_app m15.1]; rfl) hq
            refine Or.inl ⟨h', gc', gr2, 1 + k + 1, nI 2, ?_, fc1.tr m1, m2.1, ⟨u', m2.2.1, by omega⟩, m2.2.2.2.2.2.2, ((L20_0 rj.2.2.1 e1).tr m11).tr (L20_2 m14.2.2.1 y1), by omega, by omega, y2, f1.tr (m13.tr y3)⟩
            rw [hbre, z1, pu_bd, if_neg (show ¬ nI 1 = (0 : Int32) by decide), q5_passF hT m2 (show tkF b len h' ≠ 128 + 41 by omega) (by decide), pu_bd, if_pos (show nI 0 = (0 : Int32) from rfl)]
            rfl
      · obtain rfl : bk = 8 := by omega
        obtain ⟨gr1, e1, r1, f1⟩ := PL_full rj h168 (by omega) (by omega)
        exact Or.inl ⟨h + j, gcj, gr1, 1, nI 0, CBr_full cj _, FcP.rf gcj, cj.1, ⟨u, cj.2.1, by omega⟩, hRj, L20_0 rj.2.2.1 e1, by omega, Nat.le_refl _, r1, f1⟩
    · rw [if_neg h168]
      rcases hC (h + j) u p bk X (List.replicate j (28, 0) ++ base) gcj grj (nI 0) ⟨cj, rj, by rw [lnj]; omega, by rw [emj]; omega, by omega, l4, l5, tbj⟩ inj (Or.inr ⟨rfl, tj, h168⟩) (by omega) with Hf | Ho
      · exact Or.inl Hf
      · obtain ⟨h', u', p', d, D, gc', gr', X', pend, k, z1, ⟨m1, m2, m3, m4, m5, m6, m7, m8, m9, m10, m11, m12, m13, m14, m15, m16, m17⟩, zn⟩ := Ho.md
        exact Or.inr ⟨h', u', p', d, D, gc', gr', X', pend, k, z1, ⟨m1, m2, m3, m4, m5, m6, m7, m8, m9, m10, m11, m12, m13, m14, ⟨fun q hq => by have := m15.1 q hq; omega, m15.2⟩, m16, m17⟩, zn⟩
  have hkp : ∀ (v : Int32) (g' : am_G), (if tkF b len (h + j) = 168 then fX5_rd (f + 1) 3 (nI 41) gcj else fX5_rd (f + 1) 4 0 gcj) = some (v, g') → fX5_rd (f + 2) 2 0 gc = (if nI (j % 2) = (0 : Int32) then am_gd (am_zb v) (some (v, g')) else am_bd (fX5_addStep (3 : Int32) (0 : Int32) g') fun u25 g26 => am_gd (am_zb v) <| some (v, g26)) := by
    intro v g' hv
    rw [hst]
    unfold KP
    rw [cj.1, pe_gd (show h + j < 401 by omega) (by decide), pe_clamp (show h + j < 2147483648 by omega), cj.tk, pu_jn]
    by_cases h168 : tkF b len (h + j) = 168
    · rw [if_pos h168] at hv
      rw [h168, if_pos (show nI 168 = (168 : Int32) from rfl), show (41 : Int32) = nI 41 from rfl, hv, pu_bd]
    · rw [if_neg h168] at hv
      rw [if_neg (show ¬ nI (tkF b len (h + j)) = (168 : Int32) from nne (k := 168) (by omega) (by decide) h168), hv, pu_bd]
  have hj2 : nI (j % 2) = nI 0 ∨ nI (j % 2) = nI 1 := by
    rcases (show j % 2 = 0 ∨ j % 2 = 1 by omega) with z | z
    · rw [z]; exact Or.inl rfl
    · rw [z]; exact Or.inr rfl
  rcases core with Hf | Ho
  · obtain ⟨h', gc', gr', k, x', z1, z2, z3, z4, z5, z6, z7, z8, z9, z10⟩ := Hf
    have e := hkp _ _ z1
    rcases hj2 with q | q
    · rw [q, if_pos (show nI 0 = (0 : Int32) from rfl), pz_0] at e
      exact Or.inl ⟨h', gc', gr', j + k, x', e, fcj.tr z2, z3, z4, z5, rnj.tr z6, by omega, by omega, z9, frj.tr z10⟩
    · obtain ⟨gc3, y1, y2, y3, y4⟩ := q5_addF 3 z4
      rw [q, if_neg (show ¬ nI 1 = (0 : Int32) by decide), y1, pu_bd, pz_0] at e
      exact Or.inl ⟨h', gc3, gr', j + k, x', e, fcj.tr (z2.tr y2), by rw [y3]; exact z3, y4, z5, rnj.tr z6, by omega, by omega, z9, frj.tr z10⟩
  · obtain ⟨h', u', p', d, D, gc', gr', X', pend, k, z1, ⟨m1, m2, m3, m4, m5, m6, m7, m8, m9, m10, m11, m12, m13, m14, m15, m16, m17⟩, zn⟩ := Ho
    have hDT := m16 trivial
    have hb' := m2.2.2.2.2.2.2.b hT
    have e := hkp _ _ z1
    have pd := PdR.nots m8 hDT j h m15
    have rs : RS md b len h' X' p' bk ((pend ++ List.replicate j (28, 0)) ++ base) gr' := by rw [List.append_assoc]; exact m14
    have hk0 : ∀ i, i < u → am_I gc' 35 i = am_I gc 35 i := fun i hi => by rw [m6 i hi, kj]
    rcases hj2 with q | q
    · have hj0 : j % 2 = 0 := by have := (nn_eq (by omega) (by omega)).mp q; exact this
      rw [dNt_par, if_neg (by omega)] at pd
      rw [q, if_pos (show nI 0 = (0 : Int32) from rfl), pz_1] at e
      exact Or.inr (OkP.mk e ⟨fcj.tr m1, m2, by omega, m4, by omega, hk0, m7, m8, m9, m10, rnj.tr m11, by omega, frj.tr m13, rs, pd, fun _ => hDT, m17⟩ trivial)
    · have hj1 : j % 2 = 1 := by have := (nn_eq (by omega) (by omega)).mp q; exact this
      rw [dNt_par, if_pos hj1] at pd
      obtain ⟨y1, y2⟩ := q5_addStep m2 (k := 3) (w := 0) (by decide) (by decide) (by omega)
      have fc3 : FcP gc' (am_si (am_si gc' 35 u' (nI (1024 * 3 + 0))) 29 6 (nI (u' + 1))) := ((FcP.rf gc').si (by omega) _).si (by omega) _
      have s35 : am_I (am_si (am_si gc' 35 u' (nI (1024 * 3 + 0))) 29 6 (nI (u' + 1))) 35 u' = nI (1024 * 3 + 0) := by rw [pe_ine (by decide), pe_ieq]
      have o35 : ∀ i, i < u' → am_I (am_si (am_si gc' 35 u' (nI (1024 * 3 + 0))) 29 6 (nI (u' + 1))) 35 i = am_I gc' 35 i := fun i hi => by rw [pe_ine (by decide), pe_ik (by omega)]
      rw [q, if_neg (show ¬ nI 1 = (0 : Int32) by decide), show (3 : Int32) = nI 3 from rfl, show (0 : Int32) = nI 0 from rfl, y1, pu_bd, pz_1] at e
      generalize am_si (am_si gc' 35 u' (nI (1024 * 3 + 0))) 29 6 (nI (u' + 1)) = gc3 at *
      have sg : SegC (am_I gc3 35) u (u' + 1) d (dNot D) := (m7.mono (Nat.le_refl _) (fun i _ hi => o35 i hi)).not m8 s35 (by decide) (by decide)
      exact Or.inr (OkP.mk e ⟨fcj.tr (m1.tr fc3), y2, by omega, by omega, by omega, fun i hi => by rw [o35 i (by omega)]; exact hk0 i hi, sg, m8, m9, m10, rnj.tr m11, by omega, frj.tr m13, rs, pd, fun _ => hDT.not, fun z => (m17 z).not hDT⟩ trivial)
end SIM6

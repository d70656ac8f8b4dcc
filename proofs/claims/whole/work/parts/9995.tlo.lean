/-! ===== a clause of talks, and all of them ===== -/
section TLO
variable {b : Nat → Nat} {len : Nat}
def hdT (c : Nat) : Int32 := if c = 5 then 0 else if c = 6 then 1 else -1
theorem RT_hd {h nl : Nat} {X : Cd} {g : am_G} (hq : RQ true b len h X nl g) : fX12_readTold g = RT7 (hdT (tkF b len h)) g := by
  have w1 := qw_say hq.tk
  have w2 := qw_dawn hq.tk
  unfold hdT
  rw [RT_st, w1, pu_bd, pu_jn]
  by_cases h5 : tkF b len h = 5
  · rw [pb_eq h5, if_neg (show ¬ nI 1 = (0 : Int32) by decide), if_pos h5]
  · rw [pb_ne h5, if_pos (show nI 0 = (0 : Int32) from rfl), if_neg h5, w2, pu_bd]
    by_cases h6 : tkF b len h = 6
    · rw [pb_eq h6, if_neg (show ¬ nI 1 = (0 : Int32) by decide), if_pos h6]
    · rw [pb_ne h6, if_pos (show nI 0 = (0 : Int32) from rfl), if_neg h6]
theorem RT11_F {h nl : Nat} {X : Cd} {x5 : Int32} {g : am_G} (hq : RQ true b len h X nl g) : ∃ g', RT11 x5 0 g = some ((), g') ∧ FBo b len h g' ∧ FrQ g g' := by
  obtain ⟨g1, e1, r1, f1⟩ := hq.mustF
  refine ⟨g1, ?_, r1, f1.Q⟩
  unfold RT11
  rw [show fX12_must 0 g = some ((), g1) from e1, pu_bd, if_neg (show ¬ am_I g1 0 19 = 0 by rw [r1.1]; decide)]
theorem RT_bad {h nl n : Nat} {X : Cd} {g : am_G} (hq : RQ true b len h X nl g) (h21 : am_I g 0 21 = nI n) (hb : n = 12 ∨ ¬ (5 ≤ tkF b len h ∧ tkF b len h ≤ 6)) : ∃ g', fX12_readTold g = some ((), g') ∧ FBo b len h g' ∧ FrQ g g' := by
  obtain ⟨g', e, f1, f2⟩ := RT11_F (x5 := hdT (tkF b len h)) hq
  refine ⟨g', ?_, f1, f2⟩
  rw [RT_hd hq]
  unfold RT7
  rw [pu_jn, pu_jn]
  by_cases z : hdT (tkF b len h) = -1
  · rw [if_pos z]; exact e
  · rw [if_neg z]
    have hn12 : n = 12 := by
      rcases hb with y | y
      · exact y
      · exfalso
        apply z
        unfold hdT
        rw [if_neg (by omega), if_neg (by omega)]
    rw [h21, hn12, if_pos (show (12 : Int32) ≤ nI 12 by decide)]
    exact e
def ZP (b : Nat → Nat) (len : Nat) (Rc' : Option (Int32 × am_G)) (Rr : Option (Unit × am_G)) (n h : Nat) (gc gr : am_G) : Prop :=
  ∃ h' u' p' X' c' gc' gr', Rc' = some (nI 1, gc') ∧ Rr = some ((), gr') ∧ FcQ gc gc' ∧ FrQ gr gr' ∧ CS true b len h' u' p' 0 gc' ∧ RQ true b len h' X' p' gr' ∧ am_I gr' 0 21 = nI (n + 1) ∧ X'.2.2 + 1 ≤ h' ∧ u' ≤ h' ∧ p' ≤ 50 ∧ h < h' ∧ TdI (n + 1) c' u' X' gc' gr'
theorem toldClause (hT : Tp b len) {n h u p : Nat} {X : Cd} {c : Nat → pTk} {gc gr : am_G} (hn : n < 12) (hc : CS true b len h u p 0 gc) (hq : RQ true b len h X p gr) (h21 : am_I gr 0 21 = nI n) (hX : X.2.2 ≤ h) (hu : u ≤ h) (hp : p ≤ 50) (hI : TdI n c u X gc gr) : ZF b len (fX5_readClause (nI n) gc) (fX12_readTold gr) gc gr ∨ ZP b len (fX5_readClause (nI n) gc) (fX12_readTold gr) n h gc gr := by
  have hb := hc.2.2.2.2.2.2.b hT
  rw [RC_hd hT hc, if_pos (show true = true from rfl), if_pos (show true = true from rfl)]
  by_cases hk : 5 ≤ tkF b len h ∧ tkF b len h ≤ 6
  · rw [if_pos hk]
    obtain ⟨kk, hkk⟩ : ∃ kk, tkF b len h = kk := ⟨_, rfl⟩
    obtain ⟨c1, fc1, e5⟩ := RC5_hd hn hc hkk (by omega) (by omega)
    rw [hkk] at hk ⊢
    obtain ⟨gr1, m1, r1, f1⟩ := hq.mustT hT
    have h211 : am_I gr1 0 21 = nI n := by rw [f1.1 0 21 (by omega)]; exact h21
    have hd : hdT kk = nI (kk - 5) := by
      rcases (show kk = 5 ∨ kk = 6 by omega) with rfl | rfl
      · rfl
      · rfl
    have q2 := (r1.s21 (nI (n + 1))).s10 (Or.inr rfl) (10 * n) (nI (kk - 5))
    have fr2 : FrQ gr (am_si (am_si gr1 0 21 (nI (n + 1))) 33 (10 * n) (nI (kk - 5))) := (f1.P.Q.si (by omega) _).si (by omega) _
    have w33 : am_I (am_si (am_si gr1 0 21 (nI (n + 1))) 33 (10 * n) (nI (kk - 5))) 33 = am_up (am_I gr 33) (10 * n) (nI (kk - 5)) := by
      rw [pI_si_row, pI_si_ne _ _ _ (by decide)]
      congr 1
      funext k
      exact f1.1 33 k (by omega)
    have w21 : am_I (am_si (am_si gr1 0 21 (nI (n + 1))) 33 (10 * n) (nI (kk - 5))) 0 21 = nI (n + 1) := by rw [pe_ine (by decide), pe_ieq]
    have hz : fX12_readTold gr = (if nI (kk - 5) = (0 : Int32) then TRs n (am_si (am_si gr1 0 21 (nI (n + 1))) 33 (10 * n) (nI (kk - 5))) else RT22 (nI (10 * n)) (am_si (am_si gr1 0 21 (nI (n + 1))) 33 (10 * n) (nI (kk - 5)))) := by
      have m10 : (10 : Int32) * nI n = nI (10 * n) := nn_mul 10 n
      have a1 : nI (10 * n) + (1 : Int32) = nI (10 * n + 1) := nI_add _ 1
      have a3 : nI (10 * n) + (3 : Int32) = nI (10 * n + 3) := nI_add _ 3
      have a5 : nI (10 * n) + (5 : Int32) = nI (10 * n + 5) := nI_add _ 5
      rw [RT_hd hq, hkk, hd]
      unfold RT7
      rw [pu_jn, pu_jn, if_neg (show ¬ nI (kk - 5) = -1 from nI_m1ne (by omega)), h21, if_neg (show ¬ (12 : Int32) ≤ nI n from nI_ge (a := n) (b := 12) (by omega) (by decide))]
      unfold RT11 TRs
      rw [show fX12_must 1 gr = some ((), gr1) from m1, pu_bd, if_pos (show am_I gr1 0 19 = 0 from r1.b0), pu_let, pu_let, h211, m10, show nI n + (1 : Int32) = nI (n + 1) from nI_add n 1, pe_gd (show 10 * n < 120 by omega) (by decide), pu_let, pe_clamp (show 10 * n < 2147483648 by omega), pu_jn, a1, a3, a5]
    have r34 : am_I (am_si (am_si gc 29 7 (nI (h + 1))) 34 (6 * n) (nI kk)) 34 = am_up (am_I gc 34) (6 * n) (nI kk) := by rw [pI_si_row, pI_si_ne _ _ _ (by decide)]
    have r35 : am_I (am_si (am_si gc 29 7 (nI (h + 1))) 34 (6 * n) (nI kk)) 35 = am_I gc 35 := by rw [pI_si_ne _ _ _ (by decide), pI_si_ne _ _ _ (by decide)]
    have eC : RC5 (nI n) (nI kk) gc = if kk = 5 then TC1 n (am_si (am_si gc 29 7 (nI (h + 1))) 34 (6 * n) (nI kk)) else RC12 (nI n) (nI 1) (am_si (am_si gc 29 7 (nI (h + 1))) 34 (6 * n) (nI kk)) := by
      rw [e5]
      by_cases h5 : kk = 5
      · rw [if_pos h5, if_pos h5]
        unfold TC1 TC2 TC3
        rfl
      · rw [if_neg h5, if_neg h5, if_neg (by omega)]
    rw [hz, eC]
    generalize am_si (am_si gr1 0 21 (nI (n + 1))) 33 (10 * n) (nI (kk - 5)) = gr2 at *
    generalize am_si (am_si gc 29 7 (nI (h + 1))) 34 (6 * n) (nI kk) = gc1 at *
    have fin : ∀ (Rc' : Option (Int32 × am_G)) (Rr : Option (Unit × am_G)), ZF b len Rc' Rr gc1 gr2 ∨ ZU b len Rc' Rr (kk - 5 = 0) n (h + 1) u X gc1 gr2 → ZF b len Rc' Rr gc gr ∨ ZP b len Rc' Rr n h gc gr := by
      intro Rc' Rr H
      rcases H with ⟨h', gc', gr', z1, z2, z3, z4, z5, z6, z7⟩ | ⟨h', u', p', X', D, t, To, gc', gr', z1, z2, z3, z4, z5, z6, z7, z8, z9, z10, z11, z12, z13, z14, z15, z16, z17⟩
      · exact Or.inl ⟨h', gc', gr', z1, fc1.tr z2, z3, z4, z5, z6, fr2.tr z7⟩
      · refine Or.inr ⟨h', u', p', X', am_up c n (kk - 5, D, t, To), gc', gr', z1, z2, fc1.tr z3, fr2.tr z4, z5, z6, by rw [z7]; exact w21, z8, z10, z11, by omega, ?_⟩
        intro i hi
        by_cases e : i = n
        · subst e
          rw [am_up_eq, z15 _ (by omega), z16 _ (by omega), r34, w33, am_up_eq, am_up_eq]
          exact ⟨by show kk - 5 < 2; omega, by show nI kk = nI (5 + (kk - 5)); rw [show 5 + (kk - 5) = kk by omega], rfl, z17⟩
        · exact (hI.mono (c' := am_up c n (kk - 5, D, t, To)) (fun j hj => am_up_ne (by omega)) z9 z13 (fun j hj => by rw [z14 j hj, r35]) (fun k hk => by rw [z15 k (by omega), r34, am_up_at (by omega)]) (fun k hk => by rw [z16 k (by omega), w33, am_up_at (by omega)])) i (by omega)
    by_cases h5 : kk = 5
    · subst h5
      rw [if_pos rfl, if_pos (show nI (5 - 5) = (0 : Int32) from rfl)]
      refine fin _ _ ?_
      rcases sayU hT hn c1 q2 (by omega) (by omega) hp with H | ⟨h', u', p', X', D, t, To, gc', gr', z1, z2, z3, z4, z5, z6, z7, z8, z9, z10, z11, z12, z13, z14, z15, z16, z17, z18⟩
      · exact Or.inl H
      · exact Or.inr ⟨h', u', p', X', D, t, To, gc', gr', z1, z2, z3, z4, z5, z6, z7, z8, z9, z10, z11, z12, z13, z14, z15, z16, fun _ => z17 trivial, z18⟩
    · obtain rfl : kk = 6 := by omega
      rw [if_neg h5, if_neg (show ¬ nI (6 - 5) = (0 : Int32) by decide)]
      refine fin _ _ ?_
      rcases toldTail hT hn c1 q2 (by omega) (by omega) hp with H | H
      · exact Or.inl H
      · exact Or.inr (tailU (D := fun _ _ => none) hT (by omega) (fun z => absurd z (by decide)) H)
  · rw [if_neg hk]
    obtain ⟨gr', e1, e2, e3⟩ := RT_bad hq h21 (Or.inr hk)
    exact Or.inl ⟨h, gc, gr', rfl, FcQ.rf gc, hc.1, hc.2.2.2.2.2.2, e1, e2, e3⟩
def TLo (b : Nat → Nat) (len : Nat) (Rc' : Option (Int32 × am_G)) (P : am_G → Prop) (gc gr : am_G) : Prop :=
  ∃ h' u' p' X' n c' gc' gr', Rc' = some (nI 1, gc') ∧ P gr' ∧ FcQ gc gc' ∧ FrQ gr gr' ∧ CS true b len h' u' p' 0 gc' ∧ RQ true b len h' X' p' gr' ∧ tkF b len h' = 0 ∧ am_I gr' 0 21 = nI n ∧ am_I gc' 33 2 = nI n ∧ 1 ≤ n ∧ n ≤ 12 ∧ X'.2.2 + 1 ≤ h' ∧ u' ≤ h' ∧ TdI n c' u' X' gc' gr'
theorem toldLoop (hT : Tp b len) {K : am_G → Option (Int32 × am_G)} : ∀ (d i fc fr h u p : Nat) (X : Cd) (c : Nat → pTk) (gc gr : am_G), i + d = 12 → d < fc → d < fr → CS true b len h u p 0 gc → RQ true b len h X p gr → am_I gr 0 21 = nI i → X.2.2 ≤ h → u ≤ h → p ≤ 50 → TdI i c u X gc gr → TF true b len (fX5_readClauses_L2 fc (nI i) gc) (fun gr' => (am_bd (fX12_readTold gr) fun _ g8 => fX12_told_L19 K fr g8) = K gr') gc gr ∨ TLo b len (fX5_readClauses_L2 fc (nI i) gc) (fun gr' => (am_bd (fX12_readTold gr) fun _ g8 => fX12_told_L19 K fr g8) = K gr') gc gr
  | 0, i, fc, fr, h, u, p, X, c, gc, gr, hd, hfc, hfr, hc, hq, h21, hX, hu, hp, hI => by
    obtain rfl : i = 12 := by omega
    obtain ⟨fc, rfl⟩ : ∃ m, fc = m + 1 := ⟨fc - 1, by omega⟩
    obtain ⟨fr, rfl⟩ : ∃ m, fr = m + 1 := ⟨fr - 1, by omega⟩
    obtain ⟨gr', e1, e2, e3⟩ := RT_bad hq h21 (Or.inl rfl)
    refine Or.inl ⟨h, gc, gr', ?_, FcQ.rf gc, hc.1, hc.2.2.2.2.2.2, ?_, Or.inl e2, e3⟩
    · rw [fX5_readClauses_L2, if_pos (show (12 : Int32) ≤ nI 12 by decide)]
      rfl
    · rw [e1, pu_bd, fX12_told_L19, if_neg (show ¬ am_I gr' 0 19 = 0 by rw [e2.1]; decide)]
  | d + 1, i, fc, fr, h, u, p, X, c, gc, gr, hd, hfc, hfr, hc, hq, h21, hX, hu, hp, hI => by
    obtain ⟨fc, rfl⟩ : ∃ m, fc = m + 1 := ⟨fc - 1, by omega⟩
    obtain ⟨fr, rfl⟩ : ∃ m, fr = m + 1 := ⟨fr - 1, by omega⟩
    have st : fX5_readClauses_L2 (fc + 1) (nI i) gc = (am_bd (fX5_readClause (nI i) gc) fun v4 g5 =>
      if v4 = 0 then (
        some ((0 : Int32), g5))
      else (
        am_let (am_si g5 33 2 (nI i + (1 : Int32))) fun g8 =>
        am_gd (am_in (am_I g8 29 7) 401) <|
        if (am_I g8 31 (am_I g8 29 7).toNatClampNeg) = 0 then (
          some ((1 : Int32), g8))
        else (
          am_bd (fX5_pass (187 : Int32) g8) fun v11 g12 =>
          if v11 = 0 then (
            some ((0 : Int32), g12))
          else (
            am_let (nI i + (1 : Int32)) fun x15 =>
            fX5_readClauses_L2 fc x15 g12)))) := by
      rw [fX5_readClauses_L2, if_neg (show ¬ (12 : Int32) ≤ nI i from nI_ge (a := i) (b := 12) (by omega) (by decide))]
    rcases toldClause hT (show i < 12 by omega) hc hq h21 hX hu hp hI with ⟨h', gc', gr', z1, z2, z3, z4, z5, z6, z7⟩ | ⟨h', u', p', X', c', gc', gr', z1, z2, z3, z4, z5, z6, z7, z8, z9, z10, z11, z12⟩
    · refine Or.inl ⟨h', gc', gr', ?_, z2, z3, z4, ?_, Or.inl z6, z7⟩
      · rw [st, z1, pu_bd, if_pos (show nI 0 = (0 : Int32) from rfl)]
        rfl
      · rw [z5, pu_bd, fX12_told_L19, if_neg (show ¬ am_I gr' 0 19 = 0 by rw [z6.1]; decide)]
    · have hb' := z5.2.2.2.2.2.2.b hT
      have hl' := tk_lt (i := h') hT
      have c2 : CS true b len h' u' p' 0 (am_si gc' 33 2 (nI (i + 1))) := z5.cq ((FcQ.rf gc').si (by omega) _) (by rw [pe_ine (by decide)]; exact z5.1) (by rw [pe_ine (by decide)]; exact z5.2.1) (by rw [pe_ine (by decide)]; exact z5.2.2.1) (by rw [pe_ine (by decide)]; exact z5.2.2.2.1) z5.2.2.2.2.2.2
      have fc2 : FcQ gc' (am_si gc' 33 2 (nI (i + 1))) := (FcQ.rf gc').si (by omega) _
      have r33 : am_I (am_si gc' 33 2 (nI (i + 1))) 33 2 = nI (i + 1) := pe_ieq _ _ _ _
      have I2 : TdI (i + 1) c' u' X' (am_si gc' 33 2 (nI (i + 1))) gr' := z12.mono (fun _ _ => rfl) (Nat.le_refl _) (pfx.rf X') (fun j _ => pe_ine (by decide)) (fun j _ => pe_ine (by decide)) (fun _ _ => rfl)
      have st2 : fX5_readClauses_L2 (fc + 1) (nI i) gc = (if nI (tkF b len h') = 0 then some ((1 : Int32), am_si gc' 33 2 (nI (i + 1))) else (
          am_bd (fX5_pass (187 : Int32) (am_si gc' 33 2 (nI (i + 1)))) fun v11 g12 =>
          if v11 = 0 then (
            some ((0 : Int32), g12))
          else (
            fX5_readClauses_L2 fc (nI (i + 1)) g12))) := by
        rw [st, z1, pu_bd, if_neg (show ¬ nI 1 = (0 : Int32) by decide), pu_let, show nI i + (1 : Int32) = nI (i + 1) from nI_add i 1, c2.1, pe_gd (show h' < 401 by omega) (by decide), pe_clamp (show h' < 2147483648 by omega), c2.tk]
        rfl
      generalize am_si gc' 33 2 (nI (i + 1)) = gc2 at *
      have sg := q12_isSignT z6.tk (m := 59) (by decide)
      have stR : ∀ gx, am_bd (fX12_readTold gr) (fun _ g8 => fX12_told_L19 K (fr + 1) g8) = gx ↔ (am_bd (fX12_isSign (nI 59) gr') fun v13 g14 => if v13 = 0 then K g14 else am_bd (fX12_next g14) fun u17 g18 => am_bd (fX12_readTold g18) fun u20 g21 => fX12_told_L19 K fr g21) = gx := by
        intro gx
        rw [z2, pu_bd, fX12_told_L19, if_pos (show am_I gr' 0 19 = 0 from z6.b0)]
        rfl
      by_cases h0 : tkF b len h' = 0
      · refine Or.inr ⟨h', u', p', X', i + 1, c', gc2, gr', ?_, ?_, z3.tr fc2, z4, c2, z6, h0, z7, r33, by omega, by omega, z8, z9, I2⟩
        · rw [st2, h0, if_pos (show nI 0 = (0 : Int32) from rfl)]
          rfl
        · exact (stR _).mpr (by rw [sg, pb_ne (by omega), pu_bd, if_pos (show nI 0 = (0 : Int32) from rfl)])
      · rw [if_neg (show ¬ nI (tkF b len h') = 0 from nne (k := 0) (by omega) (by decide) h0)] at st2
        by_cases hs : tkF b len h' = 187
        · obtain ⟨pa, ca⟩ := q5_passT hT c2 hs (by decide)
          obtain ⟨gr2, e1, r1, f1⟩ := z6.nx hT
          have fc3 : FcQ gc2 (am_si gc2 29 7 (nI (h' + 1))) := (FcQ.rf gc2).si (by omega) _
          have I3 : TdI (i + 1) c' u' X' (am_si gc2 29 7 (nI (h' + 1))) gr2 := I2.mono (fun _ _ => rfl) (Nat.le_refl _) (pfx.rf X') (fun j _ => pe_ine (by decide)) (fun j _ => pe_ine (by decide)) (fun k _ => f1.1 33 k (by omega))
          have rc2 := toldLoop hT (K := K) d (i + 1) fc fr (h' + 1) u' p' X' c' (am_si gc2 29 7 (nI (h' + 1))) gr2 (by omega) (by omega) (by omega) ca r1 (by rw [f1.1 0 21 (by omega)]; exact z7) (by omega) (by omega) z10 I3
          have eC : fX5_readClauses_L2 (fc + 1) (nI i) gc = fX5_readClauses_L2 fc (nI (i + 1)) (am_si gc2 29 7 (nI (h' + 1))) := by
            rw [st2, show (187 : Int32) = nI 187 from rfl, pa, pu_bd, if_neg (show ¬ nI 1 = (0 : Int32) by decide)]
          have eR : ∀ gx, (am_bd (fX12_readTold gr2) fun _ g8 => fX12_told_L19 K fr g8) = gx → am_bd (fX12_readTold gr) (fun _ g8 => fX12_told_L19 K (fr + 1) g8) = gx := by
            intro gx hgx
            rw [stR, sg, pb_eq (show tkF b len h' = 128 + 59 by omega), pu_bd, if_neg (show ¬ nI 1 = (0 : Int32) by decide), e1, pu_bd]
            exact hgx
          rw [eC]
          rcases rc2 with ⟨h2, gc4, gr4, y1, y2, y3, y4, y5, y6, y7⟩ | ⟨h2, u2, p2, X2, n2, c2', gc4, gr4, y1, y2, y3, y4, y5⟩
          · exact Or.inl ⟨h2, gc4, gr4, y1, z3.tr (fc2.tr (fc3.tr y2)), y3, y4, eR _ y5, y6, z4.tr (f1.P.Q.tr y7)⟩
          · exact Or.inr ⟨h2, u2, p2, X2, n2, c2', gc4, gr4, y1, eR _ y2, z3.tr (fc2.tr (fc3.tr y3)), z4.tr (f1.P.Q.tr y4), y5⟩
        · refine Or.inl ⟨h', gc2, gr', ?_, z3.tr fc2, c2.1, c2.2.2.2.2.2.2, ?_, Or.inr ⟨⟨X', p', z6⟩, h0⟩, z4⟩
          · rw [st2, show (187 : Int32) = nI 187 from rfl, q5_passF hT c2 hs (by decide), pu_bd, if_pos (show nI 0 = (0 : Int32) from rfl)]
            rfl
          · exact (stR _).mpr (by rw [sg, pb_ne (by omega), pu_bd, if_pos (show nI 0 = (0 : Int32) from rfl)])
end TLO

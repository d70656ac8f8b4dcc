/-! ===== a law's text ===== -/
section LLP
variable {b : Nat → Nat} {len : Nat}
def TF (md : Bool) (b : Nat → Nat) (len : Nat) (Rc' : Option (Int32 × am_G)) (P : am_G → Prop) (gc gr : am_G) : Prop := ∃ h' gc' gr', Rc' = some (nI 0, gc') ∧ FcQ gc gc' ∧ am_I gc' 29 7 = nI h' ∧ Rch b len h' ∧ P gr' ∧ (FBo b len h' gr' ∨ ((∃ X p, RQ md b len h' X p gr') ∧ tkF b len h' ≠ 0)) ∧ FrQ gr gr'
def LO (b : Nat → Nat) (len : Nat) (Rc' : Option (Int32 × am_G)) (P : am_G → Prop) (gc gr : am_G) : Prop :=
  ∃ h' u' p' X' n c' gc' gr', Rc' = some (nI 1, gc') ∧ P gr' ∧ FcQ gc gc' ∧ FrQ gr gr' ∧ CS false b len h' u' p' 0 gc' ∧ RQ false b len h' X' p' gr' ∧ tkF b len h' = 0 ∧ am_I gr' 0 21 = nI n ∧ am_I gc' 33 2 = nI n ∧ 1 ≤ n ∧ n ≤ 12 ∧ X'.2.2 + 1 ≤ h' ∧ u' ≤ h' ∧ LwI n c' u' X' gc' gr'
theorem FrQ.L17 {g g' : am_G} (h : FrQ g g') : am_L g' 17 = am_L g 17 := funext fun k => h.2.1 17 k (by omega)
theorem lawLoop (hT : Tp b len) {K : am_G → Option (Int32 × am_G)} : ∀ (d i fc fr h u p : Nat) (X : Cd) (c : Nat → pCl) (gc gr : am_G), i + d = 12 → d < fc → d < fr → CS false b len h u p 0 gc → RQ false b len h X p gr → am_I gr 0 21 = nI i → X.2.2 ≤ h → u ≤ h → p ≤ 50 → am_L gr 17 = am_L am_gr 17 → LwI i c u X gc gr → TF false b len (fX5_readClauses_L2 fc (nI i) gc) (fun gr' => (am_bd (fX12_readLaw gr) fun _ g8 => fX12_law_L37 K fr g8) = K gr') gc gr ∨ LO b len (fX5_readClauses_L2 fc (nI i) gc) (fun gr' => (am_bd (fX12_readLaw gr) fun _ g8 => fX12_law_L37 K fr g8) = K gr') gc gr
  | 0, i, fc, fr, h, u, p, X, c, gc, gr, hd, hfc, hfr, hc, hq, h21, hX, hu, hp, hL, hI => by
    obtain rfl : i = 12 := by omega
    obtain ⟨fc, rfl⟩ : ∃ m, fc = m + 1 := ⟨fc - 1, by omega⟩
    obtain ⟨fr, rfl⟩ : ∃ m, fr = m + 1 := ⟨fr - 1, by omega⟩
    obtain ⟨gr', e1, e2, e3⟩ := RL_bad hq hL h21 (by omega) (Or.inl rfl)
    refine Or.inl ⟨h, gc, gr', ?_, FcQ.rf gc, hc.1, hc.2.2.2.2.2.2, ?_, Or.inl e2, e3⟩
    · rw [fX5_readClauses_L2, if_pos (show (12 : Int32) ≤ nI 12 by decide)]
      rfl
    · rw [e1, pu_bd, fX12_law_L37, if_neg (show ¬ am_I gr' 0 19 = 0 by rw [e2.1]; decide)]
  | d + 1, i, fc, fr, h, u, p, X, c, gc, gr, hd, hfc, hfr, hc, hq, h21, hX, hu, hp, hL, hI => by
    obtain ⟨fc, rfl⟩ : ∃ m, fc = m + 1 := ⟨fc - 1, by omega⟩
    obtain ⟨fr, rfl⟩ : ∃ m, fr = m + 1 := ⟨fr - 1, by omega⟩
    have st : fX5_readClauses_L2 (fc + 1) (nI i) gc = (am_bd (fX5_readClause (nI i) gc) fun v4 g5 =>
      if v4 = 0 then (
        some ((0 : Int32), g5))
      else (
        am_let (am_si g5 33 2 (nI i + (1 : Int32))) fun g8 =>
        am_gd (am_in (am_I g8 29 7) 401) <|
        if (am_I g8 31 (am_I g8 29 7).toNatClampNeg) = 0 then (
          some ((1 : Int32), g8))
        else (
          am_bd (fX5_pass (187 : Int32) g8) fun v11 g12 =>
          if v11 = 0 then (
            some ((0 : Int32), g12))
          else (
            am_let (nI i + (1 : Int32)) fun x15 =>
            fX5_readClauses_L2 fc x15 g12)))) := by
      rw [fX5_readClauses_L2, if_neg (show ¬ (12 : Int32) ≤ nI i from nI_ge (a := i) (b := 12) (by omega) (by decide))]
    rcases lawClause hT (show i < 12 by omega) hc hq h21 hX hu hp hL hI with ⟨h', gc', gr', z1, z2, z3, z4, z5, z6, z7⟩ | ⟨h', u', p', X', c', gc', gr', z1, z2, z3, z4, z5, z6, z7, z8, z9, z10, z11, z12⟩
    · refine Or.inl ⟨h', gc', gr', ?_, z2, z3, z4, ?_, Or.inl z6, z7⟩
      · rw [st, z1, pu_bd, if_pos (show nI 0 = (0 : Int32) from rfl)]
        rfl
      · rw [z5, pu_bd, fX12_law_L37, if_neg (show ¬ am_I gr' 0 19 = 0 by rw [z6.1]; decide)]
    · have hb' := z5.2.2.2.2.2.2.b hT
      have hl' := tk_lt (i := h') hT
      have c2 : CS false b len h' u' p' 0 (am_si gc' 33 2 (nI (i + 1))) := z5.cq ((FcQ.rf gc').si (by omega) _) (by rw [pe_ine (by decide)]; exact z5.1) (by rw [pe_ine (by decide)]; exact z5.2.1) (by rw [pe_ine (by decide)]; exact z5.2.2.1) (by rw [pe_ine (by decide)]; exact z5.2.2.2.1) z5.2.2.2.2.2.2
      have fc2 : FcQ gc' (am_si gc' 33 2 (nI (i + 1))) := (FcQ.rf gc').si (by omega) _
      have r33 : am_I (am_si gc' 33 2 (nI (i + 1))) 33 2 = nI (i + 1) := pe_ieq _ _ _ _
      have I2 : LwI (i + 1) c' u' X' (am_si gc' 33 2 (nI (i + 1))) gr' := z12.mono (fun _ _ => rfl) (Nat.le_refl _) (pfx.rf X') (fun j _ => pe_ine (by decide)) (fun j _ => pe_ine (by decide)) (fun _ _ => rfl)
      have st2 : fX5_readClauses_L2 (fc + 1) (nI i) gc = (if nI (tkF b len h') = 0 then some ((1 : Int32), am_si gc' 33 2 (nI (i + 1))) else (
          am_bd (fX5_pass (187 : Int32) (am_si gc' 33 2 (nI (i + 1)))) fun v11 g12 =>
          if v11 = 0 then (
            some ((0 : Int32), g12))
          else (
            fX5_readClauses_L2 fc (nI (i + 1)) g12))) := by
        rw [st, z1, pu_bd, if_neg (show ¬ nI 1 = (0 : Int32) by decide), pu_let, show nI i + (1 : Int32) = nI (i + 1) from nI_add i 1, c2.1, pe_gd (show h' < 401 by omega) (by decide), pe_clamp (show h' < 2147483648 by omega), c2.tk]
        rfl
      generalize am_si gc' 33 2 (nI (i + 1)) = gc2 at *
      have sg := q12_isSignT z6.tk (m := 59) (by decide)
      have stR : ∀ gx, am_bd (fX12_readLaw gr) (fun _ g8 => fX12_law_L37 K (fr + 1) g8) = gx ↔ (am_bd (fX12_isSign (nI 59) gr') fun v13 g14 => if v13 = 0 then K g14 else am_bd (fX12_next g14) fun u17 g18 => am_bd (fX12_readLaw g18) fun u20 g21 => fX12_law_L37 K fr g21) = gx := by
        intro gx
        rw [z2, pu_bd, fX12_law_L37, if_pos (show am_I gr' 0 19 = 0 from z6.b0)]
        rfl
      by_cases h0 : tkF b len h' = 0
      · refine Or.inr ⟨h', u', p', X', i + 1, c', gc2, gr', ?_, ?_, z3.tr fc2, z4, c2, z6, h0, z7, r33, by omega, by omega, z8, z9, I2⟩
        · rw [st2, h0, if_pos (show nI 0 = (0 : Int32) from rfl)]
          rfl
        · exact (stR _).mpr (by rw [sg, pb_ne (by omega), pu_bd, if_pos (show nI 0 = (0 : Int32) from rfl)])
      · rw [if_neg (show ¬ nI (tkF b len h') = 0 from nne (k := 0) (by omega) (by decide) h0)] at st2
        by_cases hs : tkF b len h' = 187
        · obtain ⟨pa, ca⟩ := q5_passT hT c2 hs (by decide)
          obtain ⟨gr2, e1, r1, f1⟩ := z6.nx hT
          have fc3 : FcQ gc2 (am_si gc2 29 7 (nI (h' + 1))) := (FcQ.rf gc2).si (by omega) _
          have I3 : LwI (i + 1) c' u' X' (am_si gc2 29 7 (nI (h' + 1))) gr2 := I2.mono (fun _ _ => rfl) (Nat.le_refl _) (pfx.rf X') (fun j _ => pe_ine (by decide)) (fun j _ => pe_ine (by decide)) (fun k _ => f1.1 10 k (by omega))
          have rc2 := lawLoop hT (K := K) d (i + 1) fc fr (h' + 1) u' p' X' c' (am_si gc2 29 7 (nI (h' + 1))) gr2 (by omega) (by omega) (by omega) ca r1 (by rw [f1.1 0 21 (by omega)]; exact z7) (by omega) (by omega) z10 (by rw [f1.P.Q.L17, z4.L17]; exact hL) I3
          have eC : fX5_readClauses_L2 (fc + 1) (nI i) gc = fX5_readClauses_L2 fc (nI (i + 1)) (am_si gc2 29 7 (nI (h' + 1))) := by
            rw [st2, show (187 : Int32) = nI 187 from rfl, pa, pu_bd, if_neg (show ¬ nI 1 = (0 : Int32) by decide)]
          have eR : ∀ gx, (am_bd (fX12_readLaw gr2) fun _ g8 => fX12_law_L37 K fr g8) = gx → am_bd (fX12_readLaw gr) (fun _ g8 => fX12_law_L37 K (fr + 1) g8) = gx := by
            intro gx hgx
            rw [stR, sg, pb_eq (show tkF b len h' = 128 + 59 by omega), pu_bd, if_neg (show ¬ nI 1 = (0 : Int32) by decide), e1, pu_bd]
            exact hgx
          rw [eC]
          rcases rc2 with ⟨h2, gc4, gr4, y1, y2, y3, y4, y5, y6, y7⟩ | ⟨h2, u2, p2, X2, n2, c2', gc4, gr4, y1, y2, y3, y4, y5⟩
          · exact Or.inl ⟨h2, gc4, gr4, y1, z3.tr (fc2.tr (fc3.tr y2)), y3, y4, eR _ y5, y6, z4.tr (f1.P.Q.tr y7)⟩
          · exact Or.inr ⟨h2, u2, p2, X2, n2, c2', gc4, gr4, y1, eR _ y2, z3.tr (fc2.tr (fc3.tr y3)), z4.tr (f1.P.Q.tr y4), y5⟩
        · refine Or.inl ⟨h', gc2, gr', ?_, z3.tr fc2, c2.1, c2.2.2.2.2.2.2, ?_, Or.inr ⟨⟨X', p', z6⟩, h0⟩, z4⟩
          · rw [st2, show (187 : Int32) = nI 187 from rfl, q5_passF hT c2 hs (by decide), pu_bd, if_pos (show nI 0 = (0 : Int32) from rfl)]
            rfl
          · exact (stR _).mpr (by rw [sg, pb_ne (by omega), pu_bd, if_pos (show nI 0 = (0 : Int32) from rfl)])
/-- the text ends -/
def etR (g : am_G) : am_G := am_si (am_si g 0 20 (nI 0)) 0 13 (nI 0)
theorem endT_bad {md : Bool} {h : Nat} {g : am_G} (hb : FBo b len h g ∨ ((∃ X p, RQ md b len h X p g) ∧ tkF b len h ≠ 0)) : ∃ g', fX12_endText g = some ((), etR g') ∧ am_I g' 0 19 = nI 1 ∧ am_I g' 0 18 = nI (plF b len h) ∧ FrQ g g' := by
  unfold fX12_endText etR
  rcases hb with hb | ⟨⟨X, p, hq⟩, h0⟩
  · refine ⟨g, ?_, hb.1, hb.2, FrQ.rf g⟩
    rw [if_neg (show ¬ am_I g 0 19 = 0 by rw [hb.1]; decide)]
    rfl
  · obtain ⟨g1, e1, r1, f1⟩ := hq.mustF
    refine ⟨g1, ?_, r1.1, r1.2, f1.Q⟩
    have h16 : ¬ am_I g 0 16 = 0 := by
      rcases hq.tk with ⟨t1, -⟩ | ⟨-, -, t3, -⟩ | ⟨-, -, t3, -⟩ | ⟨-, t3, -⟩ | ⟨-, -, t3, -⟩
      · exact absurd t1 h0
      · rw [t3]; decide
      · rw [t3]; decide
      · rw [t3]; decide
      · rw [t3]; decide
    rw [if_pos (show am_I g 0 19 = 0 from hq.b0), if_neg h16, show fX12_must 0 g = some ((), g1) from e1, pu_bd]
    rfl
theorem endT_ok {md : Bool} {h p : Nat} {X : Cd} {g : am_G} (hq : RQ md b len h X p g) (h0 : tkF b len h = 0) : fX12_endText g = some ((), etR g) ∧ am_I g 0 19 = nI 0 ∧ am_I g 0 18 = -1 := by
  have h16 : am_I g 0 16 = 0 := by
    rcases hq.tk with ⟨-, t3⟩ | ⟨t1, -⟩ | ⟨t1, -⟩ | ⟨t1, -⟩ | ⟨t1, -⟩
    · exact t3
    · omega
    · omega
    · omega
    · omega
  refine ⟨?_, hq.b0, hq.f18⟩
  unfold fX12_endText etR
  rw [if_pos (show am_I g 0 19 = 0 from hq.b0), if_pos h16]
  rfl
end LLP

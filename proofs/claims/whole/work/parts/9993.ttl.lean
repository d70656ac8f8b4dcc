/-! ===== the end of a clause of talks ===== -/
section TTL
variable {b : Nat → Nat} {len : Nat}
theorem RQ.num (hT : Tp b len) {h p : Nat} {X : Cd} {g : am_G} (hq : RQ true b len h X p g) : (1001 ≤ tkF b len h ∧ tkF b len h ≤ 1020 ∧ ∃ g', fX12_number 1 20 g = some (nI (tkF b len h - 1000), g') ∧ RQ true b len (h + 1) X p g' ∧ FrN g g') ∨ (¬ (1001 ≤ tkF b len h ∧ tkF b len h ≤ 1020) ∧ ∃ x g', fX12_number 1 20 g = some (x, g') ∧ FBo b len h g' ∧ FrP g g') := by
  have tk1 := hq.tk
  by_cases hin : 1001 ≤ tkF b len h ∧ tkF b len h ≤ 1020
  · left
    rcases tk1 with ⟨t1, -⟩ | ⟨t1, t2, -⟩ | ⟨t1, t2, t3, t4⟩ | ⟨t1, -⟩ | ⟨t1, t2, -⟩
    · omega
    · omega
    · obtain ⟨g2, e2, r2, f2⟩ := hq.mustT hT
      refine ⟨hin.1, hin.2, g2, ?_, r2, f2⟩
      unfold fX12_number
      have i1 : fX12_in (nI (tkF b len h - 1000)).toInt64 1 20 g = some (pb (nI 1 ≤ nI (tkF b len h - 1000) ∧ nI (tkF b len h - 1000) ≤ nI 20), g) := q12_in _ (nI 1) (nI 20) g
      rw [pb_eq (show nI 1 ≤ nI (tkF b len h - 1000) ∧ nI (tkF b len h - 1000) ≤ nI 20 from ⟨(nI_leI (by omega) (by omega)).mpr (by omega), (nI_leI (by omega) (by omega)).mpr (by omega)⟩)] at i1
      rw [pu_let, if_pos (show am_I g 0 16 = (2 : Int32) from t3), t4, i1, pu_bd, if_neg (show ¬ nI 1 = (0 : Int32) by decide), show fX12_must 1 g = some ((), g2) from e2, pu_bd, i64_32]
    · omega
    · omega
  · right
    obtain ⟨g2, e2, r2, f2⟩ := hq.mustF
    have e2' : fX12_must 0 g = some ((), g2) := e2
    refine ⟨hin, (am_L g 0 17).toInt32, g2, ?_, r2, f2⟩
    unfold fX12_number
    rw [pu_let]
    have nt : ∀ z : Int32, z ≠ 2 → am_I g 0 16 = z → (if am_I g 0 16 = (2 : Int32) then (am_bd (fX12_in (am_L g 0 17) 1 20 g) fun v6 g7 => if v6 = 0 then (am_bd (fX12_must (0 : Int32) g7) fun u10 g11 => some ((am_L g 0 17).toInt32, g11)) else (am_bd (fX12_must (1 : Int32) g7) fun u13 g14 => some ((am_L g 0 17).toInt32, g14))) else (am_bd (fX12_must (0 : Int32) g) fun u3 g4 => some ((am_L g 0 17).toInt32, g4))) = some ((am_L g 0 17).toInt32, g2) := by
      intro z hz h16
      rw [if_neg (by rw [h16]; exact hz), e2', pu_bd]
    have yt : am_I g 0 16 = 2 → fX12_in (am_L g 0 17) 1 20 g = some (nI 0, g) → (if am_I g 0 16 = (2 : Int32) then (am_bd (fX12_in (am_L g 0 17) 1 20 g) fun v6 g7 => if v6 = 0 then (am_bd (fX12_must (0 : Int32) g7) fun u10 g11 => some ((am_L g 0 17).toInt32, g11)) else (am_bd (fX12_must (1 : Int32) g7) fun u13 g14 => some ((am_L g 0 17).toInt32, g14))) else (am_bd (fX12_must (0 : Int32) g) fun u3 g4 => some ((am_L g 0 17).toInt32, g4))) = some ((am_L g 0 17).toInt32, g2) := by
      intro h16 hi
      rw [if_pos h16, hi, pu_bd, if_pos (show nI 0 = (0 : Int32) from rfl), e2', pu_bd]
    rcases tk1 with ⟨t1, t3⟩ | ⟨t1, t2, t3, -⟩ | ⟨t1, t2, t3, t4⟩ | ⟨t1, t3, t4⟩ | ⟨t1, t2, t3, -⟩
    · exact nt _ (by decide) t3
    · exact nt _ (by decide) t3
    · have i1 : fX12_in (am_L g 0 17) 1 20 g = some (nI 0, g) := by
        rw [t4, show (1 : Int64) = (nI 1).toInt64 from rfl, show (20 : Int64) = (nI 20).toInt64 from rfl, q12_in, pb_ne]
        intro z
        have z1 := (nI_leI (by omega) (by omega)).mp z.1
        have z2 := (nI_leI (by omega) (by omega)).mp z.2
        omega
      exact yt t3 i1
    · have i1 : fX12_in (am_L g 0 17) 1 20 g = some (nI 0, g) := by
        rw [q12_in64, pb_ne]
        intro z
        have y := Int64.lt_of_lt_of_le t4 z.2
        exact absurd y (by decide)
      exact yt t3 i1
    · exact nt _ (by decide) t3
theorem up_up {f : Nat → Int32} {k : Nat} {x y : Int32} : am_up (am_up f k x) k y = am_up f k y := by
  funext j
  by_cases e : j = k
  · rw [e, am_up_eq, am_up_eq]
  · rw [am_up_ne e, am_up_ne e, am_up_ne e]
def TM (b : Nat → Nat) (len n h u p : Nat) (X : Cd) (gc gr : am_G) : Prop :=
  ∃ h' t gc' gr', 1 ≤ t ∧ t ≤ 20 ∧ fX5_keepTimes (nI n) gc = some (nI 1, gc') ∧ RT22 (nI (10 * n)) gr = RT27 (nI (10 * n)) gr' ∧ FcQ gc gc' ∧ FrQ gr gr' ∧ CS true b len h' u p 0 gc' ∧ RQ true b len h' X p gr' ∧ h ≤ h' ∧ am_I gr' 0 21 = am_I gr 0 21 ∧ am_I gc' 34 = am_up (am_I gc 34) (6 * n + 5) (nI t) ∧ am_I gc' 35 = am_I gc 35 ∧ am_I gr' 33 = am_up (am_I gr 33) (10 * n + 9) (nI t)
theorem tTimes (hT : Tp b len) {n h u p : Nat} {X : Cd} {gc gr : am_G} (hn : n < 12) (hc : CS true b len h u p 0 gc) (hq : RQ true b len h X p gr) : ZF b len (fX5_keepTimes (nI n) gc) (RT22 (nI (10 * n)) gr) gc gr ∨ TM b len n h u p X gc gr := by
  have a0 : nI n * (6 : Int32) + (5 : Int32) = nI (6 * n + 5) := cl6 (j := 5) hn
  have a9 : nI (10 * n) + (9 : Int32) = nI (10 * n + 9) := nI_add _ 9
  have hb := hc.2.2.2.2.2.2.b hT
  have c1 := hc.row (6 * n + 5) (nI 1)
  have q1 := hq.s10 (Or.inr rfl) (10 * n + 9) (nI 1)
  have fc1 : FcQ gc (am_si gc 34 (6 * n + 5) (nI 1)) := (FcQ.rf gc).si (by omega) _
  have fr1 : FrQ gr (am_si gr 33 (10 * n + 9) (nI 1)) := (FrQ.rf gr).si (by omega) _
  have r34 : am_I (am_si gc 34 (6 * n + 5) (nI 1)) 34 = am_up (am_I gc 34) (6 * n + 5) (nI 1) := pI_si_row _ _ _ _
  have r35 : am_I (am_si gc 34 (6 * n + 5) (nI 1)) 35 = am_I gc 35 := pI_si_ne _ _ _ (by decide)
  have r33 : am_I (am_si gr 33 (10 * n + 9) (nI 1)) 33 = am_up (am_I gr 33) (10 * n + 9) (nI 1) := pI_si_row _ _ _ _
  have r21 : am_I (am_si gr 33 (10 * n + 9) (nI 1)) 0 21 = am_I gr 0 21 := pe_ine (by decide)
  have stC : fX5_keepTimes (nI n) gc = (am_bd (fX5_pass (nI 12) (am_si gc 34 (6 * n + 5) (nI 1))) fun v5 g6 =>
    if v5 = 0 then (
      some ((1 : Int32), g6))
    else (
      am_gd (am_in (am_I g6 29 7) 401) <|
      am_bd (fX11_within (am_I g6 31 (am_I g6 29 7).toNatClampNeg) (1001 : Int32) (1020 : Int32) g6) fun v10 g11 =>
      if v10 = 0 then (
        some ((0 : Int32), g11))
      else (
        am_gd (am_in (am_I g11 29 7) 401) <|
        am_gd (am_in (nI (6 * n + 5)) 72) <|
        am_let (am_si g11 34 (6 * n + 5) ((am_I g11 31 (am_I g11 29 7).toNatClampNeg) - (1000 : Int32))) fun g16 =>
        am_let (am_si g16 29 7 ((am_I g16 29 7) + (1 : Int32))) fun g17 =>
        some ((1 : Int32), g17)))) := by
    unfold fX5_keepTimes
    rw [pu_let, a0, pe_gd (show 6 * n + 5 < 72 by omega) (by decide), pu_let, pe_clamp (show 6 * n + 5 < 2147483648 by omega), if_pos (show am_I (am_si gc 34 (6 * n + 5) 1) 29 10 = 0 by rw [pe_ine (by decide), hc.2.2.2.2.1]; decide)]
    rfl
  have stR : RT22 (nI (10 * n)) gr = (am_bd (fX12_isWord (21279923 : Int64) (am_si gr 33 (10 * n + 9) (nI 1))) fun v47 g48 =>
            if v47 = 0 then (
              RT27 (nI (10 * n)) g48)
            else (
              am_bd (fX12_next g48) fun u51 g52 =>
              am_bd (fX12_number (1 : Int64) (20 : Int64) g52) fun v54 g55 =>
              am_gd (am_in (nI (10 * n + 9)) 120) <|
              am_let (am_si g55 33 (10 * n + 9) v54) fun g58 =>
              RT27 (nI (10 * n)) g58)) := by
    unfold RT22
    rw [a9, pe_gd (show 10 * n + 9 < 120 by omega) (by decide), pu_let, pe_clamp (show 10 * n + 9 < 2147483648 by omega), pu_jn, if_pos (show am_I (am_si gr 33 (10 * n + 9) 1) 0 19 = 0 from q1.b0)]
    rfl
  generalize am_si gc 34 (6 * n + 5) (nI 1) = gc1 at *
  generalize am_si gr 33 (10 * n + 9) (nI 1) = gr1 at *
  have iw := qw_times q1.tk
  by_cases ht : tkF b len h = 12
  · obtain ⟨pa, ca⟩ := q5_passT hT c1 ht (by decide)
    obtain ⟨gr2, e1, r1, f1⟩ := q1.nx hT
    have hb1 := ca.2.2.2.2.2.2.b hT
    have hl1 := tk_lt (i := h + 1) hT
    have fc2 : FcQ gc1 (am_si gc1 29 7 (nI (h + 1))) := (FcQ.rf gc1).si (by omega) _
    have s34 : am_I (am_si gc1 29 7 (nI (h + 1))) 34 = am_I gc1 34 := pI_si_ne _ _ _ (by decide)
    have s35 : am_I (am_si gc1 29 7 (nI (h + 1))) 35 = am_I gc1 35 := pI_si_ne _ _ _ (by decide)
    rw [pa, pu_bd, if_neg (show ¬ nI 1 = (0 : Int32) by decide)] at stC
    rw [iw, pb_eq ht, pu_bd, if_neg (show ¬ nI 1 = (0 : Int32) by decide), e1, pu_bd] at stR
    generalize am_si gc1 29 7 (nI (h + 1)) = gc2 at *
    rw [ca.1, pe_gd (show h + 1 < 401 by omega) (by decide), pe_clamp (show h + 1 < 2147483648 by omega), ca.tk, q11_within, pu_bd] at stC
    rcases r1.num hT with ⟨n1, n2, gr3, e3, r3, f3⟩ | ⟨n1, x, gr3, e3, r3, f3⟩
    · right
      rw [pb_eq (show (1001 : Int32) ≤ nI (tkF b len (h + 1)) ∧ nI (tkF b len (h + 1)) ≤ (1020 : Int32) from (wi (a := 1001) (b := 1020) (by omega) (by decide) (by decide)).mpr ⟨n1, n2⟩), if_neg (show ¬ nI 1 = (0 : Int32) by decide), ca.1, pe_gd (show h + 1 < 401 by omega) (by decide), pe_gd (show 6 * n + 5 < 72 by omega) (by decide), pu_let, pe_clamp (show h + 1 < 2147483648 by omega), ca.tk, pu_let, pe_ine (by decide), ca.1, show nI (h + 1) + (1 : Int32) = nI (h + 1 + 1) from nI_add _ 1] at stC
      have sb : nI (tkF b len (h + 1)) - (1000 : Int32) = nI (tkF b len (h + 1) - 1000) := nn_sub (b := 1000) (by omega)
      rw [sb] at stC
      rw [e3, pu_bd, pe_gd (show 10 * n + 9 < 120 by omega) (by decide), pu_let] at stR
      have hR2 : Rch b len (h + 1 + 1) := ca.2.2.2.2.2.2.nx (by omega)
      have fc3 : FcQ gc2 (am_si (am_si gc2 34 (6 * n + 5) (nI (tkF b len (h + 1) - 1000))) 29 7 (nI (h + 1 + 1))) := ((FcQ.rf gc2).si (by omega) _).si (by omega) _
      refine ⟨h + 1 + 1, tkF b len (h + 1) - 1000, _, _, by omega, by omega, stC, stR, fc1.tr (fc2.tr fc3), fr1.tr (f1.P.Q.tr (f3.P.Q.si (by omega) _)), ?_, r3.s10 (Or.inr rfl) _ _, by omega, ?_, ?_, ?_, ?_⟩
      · exact ca.cq fc3 (pe_ieq _ _ _ _) (by rw [pe_ik (by decide), pe_ine (by decide)]; exact ca.2.1) (by rw [pe_ik (by decide), pe_ine (by decide)]; exact ca.2.2.1) (by rw [pe_ik (by decide), pe_ine (by decide)]; exact ca.2.2.2.1) hR2
      · rw [pe_ine (by decide), f3.1 0 21 (by omega), f1.1 0 21 (by omega)]; exact r21
      · rw [pI_si_ne _ _ _ (by decide), pI_si_row, s34, r34, up_up]
      · rw [pI_si_ne _ _ _ (by decide), pI_si_ne _ _ _ (by decide), s35, r35]
      · rw [pI_si_row, show am_I gr3 33 = am_I gr1 33 from funext fun k => by rw [f3.1 33 k (by omega), f1.1 33 k (by omega)], r33, up_up]
    · left
      rw [pb_ne (show ¬ ((1001 : Int32) ≤ nI (tkF b len (h + 1)) ∧ nI (tkF b len (h + 1)) ≤ (1020 : Int32)) from fun z => n1 ((wi (a := 1001) (b := 1020) (by omega) (by decide) (by decide)).mp z)), if_pos (show nI 0 = (0 : Int32) from rfl)] at stC
      rw [e3, pu_bd, pe_gd (show 10 * n + 9 < 120 by omega) (by decide), pu_let] at stR
      obtain ⟨gr4, t1, t2, t3⟩ := RT27_bad hn (r3.s10 (Or.inr rfl) (10 * n + 9) x)
      exact ⟨h + 1, gc2, gr4, stC, fc1.tr fc2, ca.1, ca.2.2.2.2.2.2, stR.trans t1, t2, fr1.tr (f1.P.Q.tr ((f3.Q.si (by omega) _).tr t3))⟩
  · right
    rw [q5_passF hT c1 ht (by decide), pu_bd, if_pos (show nI 0 = (0 : Int32) from rfl)] at stC
    rw [iw, pb_ne ht, pu_bd, if_pos (show nI 0 = (0 : Int32) from rfl)] at stR
    exact ⟨h, 1, gc1, gr1, by omega, by omega, stC, stR, fc1, fr1, c1, q1, Nat.le_refl _, r21, r34, r35, r33⟩
def tdTl (b : Nat → Nat) (len : Nat) (Rc' : Option (Int32 × am_G)) (Rr : Option (Unit × am_G)) (n h1 u1 : Nat) (X1 : Cd) (gc gr : am_G) : Prop :=
  ∃ h' u' p' X' To x t gc' gr', Rc' = some (nI 1, gc') ∧ Rr = some ((), gr') ∧ FcQ gc gc' ∧ FrQ gr gr' ∧ CS true b len h' u' p' 0 gc' ∧ RQ true b len h' X' p' gr' ∧ am_I gr' 0 21 = am_I gr 0 21 ∧ X'.2.2 + 1 ≤ h' ∧ u1 ≤ u' ∧ u' ≤ h' ∧ p' ≤ 50 ∧ h1 ≤ h' ∧ pfx X1 X' ∧ (∀ i, i < u1 → am_I gc' 35 i = am_I gc 35 i) ∧ am_I gc' 34 = am_up (am_up (am_I gc 34) (6 * n + 5) (nI t)) (6 * n + 4) x ∧ am_I gr' 33 = am_up (am_up (am_up (am_I gr 33) (10 * n + 9) (nI t)) (10 * n + 7) (nI X1.2.2)) (10 * n + 8) (nI X'.2.2) ∧ tlT true (am_I gc' 35) u' u1 X' X1 To x ∧ 1 ≤ t ∧ t ≤ 20
theorem toldTail (hT : Tp b len) {n h1 u1 p1 : Nat} {X1 : Cd} {gc gr : am_G} (hn : n < 12) (hc : CS true b len h1 u1 p1 0 gc) (hq : RQ true b len h1 X1 p1 gr) (hX : X1.2.2 + 1 ≤ h1) (hu : u1 ≤ h1) (hp : p1 ≤ 50) : ZF b len (RC12 (nI n) (nI 1) gc) (RT22 (nI (10 * n)) gr) gc gr ∨ tdTl b len (RC12 (nI n) (nI 1) gc) (RT22 (nI (10 * n)) gr) n h1 u1 X1 gc gr := by
  rw [RC12_1]
  rcases tTimes hT hn hc hq with ⟨h', gc', gr', z1, z2, z3, z4, z5, z6, z7⟩ | ⟨h2, t, gc2, gr2, t1, t2, y1, y2, y3, y4, c0, q0, y5, y6, y7, y8, y9⟩
  · refine Or.inl ⟨h', gc', gr', ?_, z2, z3, z4, z5, z6, z7⟩
    rw [z1, pu_bd, if_pos (show nI 0 = (0 : Int32) from rfl)]
    rfl
  rw [y1, pu_bd, if_neg (show ¬ nI 1 = (0 : Int32) by decide), y2, RT27_ok hn q0]
  have q1 := q0.s10 (Or.inr rfl) (10 * n + 7) (nI X1.2.2)
  have fr1 : FrQ gr2 (am_si gr2 33 (10 * n + 7) (nI X1.2.2)) := (FrQ.rf gr2).si (by omega) _
  have r33 : am_I (am_si gr2 33 (10 * n + 7) (nI X1.2.2)) 33 = am_up (am_up (am_I gr 33) (10 * n + 9) (nI t)) (10 * n + 7) (nI X1.2.2) := by rw [pI_si_row, y9]
  have r21 : am_I (am_si gr2 33 (10 * n + 7) (nI X1.2.2)) 0 21 = am_I gr 0 21 := by rw [pe_ine (by decide)]; exact y6
  generalize am_si gr2 33 (10 * n + 7) (nI X1.2.2) = gr1 at *
  rcases kTest hT hn c0 q1 (by omega) (by omega) hp with ⟨e1, e2⟩ | ⟨h', gc', gr', z1, z2, z3, z4, z5, z6, z7⟩ | ⟨h', u', p', D, gc', gr', X', z1, z2, z3, z4, z5, z6, z7, z8, z9, z10, z11, z12, z13, z14, z15, z16, z17, z18, z19⟩
  · refine Or.inr ⟨h2, u1, p1, X1, none, -1, t, am_si gc2 34 (6 * n + 4) (-1), am_si gr1 33 (10 * n + 8) (nI X1.2.2), ?_, ?_, y3.tr ((FcQ.rf gc2).si (by omega) _), y4.tr (fr1.tr ((FrQ.rf gr1).si (by omega) _)), c0.row _ _, q1.s10 (Or.inr rfl) _ _, by rw [pe_ine (by decide)]; exact r21, by omega, Nat.le_refl _, by omega, hp, y5, pfx.rf X1, fun i hi => by rw [pe_ine (by decide), y8], by rw [pI_si_row, y7], by rw [pI_si_row, r33], Or.inl ⟨rfl, rfl, rfl⟩, t1, t2⟩
    · rw [e1, pu_bd, if_neg (show ¬ nI 1 = (0 : Int32) by decide)]
      rfl
    · rw [e2, pu_bd, q1.c.1]
  · refine Or.inl ⟨h', gc', am_si gr' 33 (10 * n + 8) (am_I gr' 0 23), ?_, y3.tr z2, z3, z4, ?_, z6.s10 (Or.inr rfl) _ _, y4.tr (fr1.tr (z7.Q.si (by omega) _))⟩
    · rw [z1, pu_bd, if_pos (show nI 0 = (0 : Int32) from rfl)]
      rfl
    · rw [z5, pu_bd]
  · refine Or.inr ⟨h', u', p', X', some D, nI u1, t, gc', am_si gr' 33 (10 * n + 8) (nI X'.2.2), ?_, ?_, y3.tr z3, y4.tr (fr1.tr (z14.Q.si (by omega) _)), z4, z15.s10 (Or.inr rfl) _ _, by rw [pe_ine (by decide), z14.1 0 21 (by omega) (by omega)]; exact r21, z8, by omega, z7, z10, by omega, z17, fun i hi => by rw [z12 i hi, y8], by rw [z11, y7], ?_, Or.inr ⟨D, rfl, rfl, z13, z16, z18 trivial, z19⟩, t1, t2⟩
    · rw [z1, pu_bd, if_neg (show ¬ nI 1 = (0 : Int32) by decide)]
      rfl
    · rw [z2, pu_bd, z15.c.1]
    · rw [pI_si_row, ← r33]
      congr 1
      funext k
      exact z14.1 33 k (by omega) (by omega)
end TTL

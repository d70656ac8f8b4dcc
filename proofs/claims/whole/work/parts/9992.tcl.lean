/-! ===== a clause of talks ===== -/
def RT27 (x16 : Int32) (g26 : am_G) : Option (Unit × am_G) :=
            am_gd (am_in (x16 + (7 : Int32)) 120) <|
            am_let (am_si g26 33 (x16 + (7 : Int32)).toNatClampNeg (am_I g26 0 23)) fun g29 =>
            if (am_I g29 0 19) = 0 then (
              am_bd (fX12_isWord (294 : Int64) g29) fun v33 g34 =>
              if v33 = 0 then (
                am_gd (am_in (x16 + (8 : Int32)) 120) <|
                am_let (am_si g34 33 (x16 + (8 : Int32)).toNatClampNeg (am_I g34 0 23)) fun g38 =>
                some ((), g38))
              else (
                am_bd (fX12_next g34) fun u39 g40 =>
                am_bd (fX12_readExpression (1 : Int32) g40) fun u42 g43 =>
                am_gd (am_in (x16 + (8 : Int32)) 120) <|
                am_let (am_si g43 33 (x16 + (8 : Int32)).toNatClampNeg (am_I g43 0 23)) fun g46 =>
                some ((), g46)))
            else (
              am_gd (am_in (x16 + (8 : Int32)) 120) <|
              am_let (am_si g29 33 (x16 + (8 : Int32)).toNatClampNeg (am_I g29 0 23)) fun g32 =>
              some ((), g32))
def RT22 (x16 : Int32) (g21 : am_G) : Option (Unit × am_G) :=
          am_gd (am_in (x16 + (9 : Int32)) 120) <|
          am_let (am_si g21 33 (x16 + (9 : Int32)).toNatClampNeg (1 : Int32)) fun g24 =>
          am_jn (RT27 x16) fun j27 =>
          if (am_I g24 0 19) = 0 then (
            am_bd (fX12_isWord (21279923 : Int64) g24) fun v47 g48 =>
            if v47 = 0 then (
              j27 g48)
            else (
              am_bd (fX12_next g48) fun u51 g52 =>
              am_bd (fX12_number (1 : Int64) (20 : Int64) g52) fun v54 g55 =>
              am_gd (am_in (x16 + (9 : Int32)) 120) <|
              am_let (am_si g55 33 (x16 + (9 : Int32)).toNatClampNeg v54) fun g58 =>
              j27 g58))
          else (
            j27 g24)
def RT11 (x5 x9 : Int32) (g10 : am_G) : Option (Unit × am_G) :=
      am_bd (fX12_must x9 g10) fun u12 g13 =>
      if (am_I g13 0 19) = 0 then (
        am_let ((10 : Int32) * (am_I g13 0 21)) fun x16 =>
        am_let (am_si g13 0 21 ((am_I g13 0 21) + (1 : Int32))) fun g17 =>
        am_gd (am_in x16 120) <|
        am_let (am_si g17 33 x16.toNatClampNeg x5) fun g19 =>
        am_jn (RT22 x16) fun j22 =>
        if x5 = 0 then (
          am_bd (fX12_readSum (x16 + (1 : Int32)) g19) fun u59 g60 =>
          am_bd (fX12_readBehind (x16 + (3 : Int32)) (52 : Int64) g60) fun u62 g63 =>
          am_bd (fX12_readBehind (x16 + (5 : Int32)) (409252 : Int64) g63) fun u65 g66 =>
          j22 g66)
        else (
          j22 g19))
      else (
        some ((), g13))
def RT7 (x5 : Int32) (g6 : am_G) : Option (Unit × am_G) :=
    am_jn (RT11 x5) fun j11 =>
    am_jn (fun  (g68 : am_G) =>
      j11 (0 : Int32) g68) fun j69 =>
    if x5 = (-1 : Int32) then (
      j69 g6)
    else (
      if (12 : Int32) ≤ (am_I g6 0 21) then (
        j69 g6)
      else (
        j11 (1 : Int32) g6))
theorem RT_st (g : am_G) : fX12_readTold g = (am_bd (fX12_isWord (19513 : Int64) g) fun v1 g2 =>
  am_jn RT7 fun j7 =>
  if v1 = 0 then (
    am_bd (fX12_isWord (132846 : Int64) g2) fun v71 g72 =>
    if v71 = 0 then (
      j7 (-1 : Int32) g72)
    else (
      j7 (1 : Int32) g72))
  else (
    j7 (0 : Int32) g2)) := by
  unfold fX12_readTold
  refine congrArg (fun K => am_bd (fX12_isWord (19513 : Int64) g) K) ?_
  funext v1 g2
  unfold RT7 RT11 RT22 RT27
  rfl
section TCL
variable {b : Nat → Nat} {len : Nat}
theorem RT27_ok {h nl N : Nat} {X : Cd} {g : am_G} (hN : N < 12) (hr : RQ true b len h X nl g) : RT27 (nI (10 * N)) g = am_bd (ifR (am_si g 33 (10 * N + 7) (nI X.2.2))) (fun _ g' => some ((), am_si g' 33 (10 * N + 8) (am_I g' 0 23))) := by
  obtain ⟨c23, c19, -⟩ := hr.c
  have a7 : nI (10 * N) + (7 : Int32) = nI (10 * N + 7) := nI_add _ 7
  have a8 : nI (10 * N) + (8 : Int32) = nI (10 * N + 8) := nI_add _ 8
  unfold RT27
  rw [a7, a8, pe_gd (show 10 * N + 7 < 120 by omega) (by decide), pu_let, pe_clamp (show 10 * N + 7 < 2147483648 by omega), c23, if_pos (show am_I (am_si g 33 (10 * N + 7) (nI X.2.2)) 0 19 = 0 by rw [pe_ine (by decide)]; exact c19)]
  unfold ifR
  generalize am_si g 33 (10 * N + 7) (nI X.2.2) = g0
  cases e : fX12_isWord 294 g0 with
  | none => rfl
  | some q =>
    obtain ⟨v, g1⟩ := q
    rw [pu_bd, pu_bd]
    by_cases hv : v = 0
    · rw [if_pos hv, if_pos hv, pu_bd, pe_gd (show 10 * N + 8 < 120 by omega) (by decide), pu_let, pe_clamp (show 10 * N + 8 < 2147483648 by omega)]
    · rw [if_neg hv, if_neg hv]
      cases e2 : fX12_next g1 with
      | none => rfl
      | some q2 =>
        obtain ⟨u2, g2⟩ := q2
        rw [pu_bd, pu_bd]
        cases e3 : fX12_readExpression 1 g2 with
        | none => rfl
        | some q3 =>
          obtain ⟨u3, g3⟩ := q3
          rw [pu_bd, pu_bd, pe_gd (show 10 * N + 8 < 120 by omega) (by decide), pu_let, pe_clamp (show 10 * N + 8 < 2147483648 by omega)]
theorem RT27_bad {h N : Nat} {g : am_G} (hN : N < 12) (hr : FBo b len h g) : ∃ g', RT27 (nI (10 * N)) g = some ((), g') ∧ FBo b len h g' ∧ FrQ g g' := by
  have a7 : nI (10 * N) + (7 : Int32) = nI (10 * N + 7) := nI_add _ 7
  have a8 : nI (10 * N) + (8 : Int32) = nI (10 * N + 8) := nI_add _ 8
  refine ⟨am_si (am_si g 33 (10 * N + 7) (am_I g 0 23)) 33 (10 * N + 8) (am_I g 0 23), ?_, (hr.s10 (Or.inr rfl) _ _).s10 (Or.inr rfl) _ _, ((FrQ.rf g).si (by omega) _).si (by omega) _⟩
  unfold RT27
  rw [a7, a8, pe_gd (show 10 * N + 7 < 120 by omega) (by decide), pu_let, pe_clamp (show 10 * N + 7 < 2147483648 by omega), if_neg (show ¬ am_I (am_si g 33 (10 * N + 7) (am_I g 0 23)) 0 19 = 0 by rw [pe_ine (by decide), hr.1]; decide), pe_gd (show 10 * N + 8 < 120 by omega) (by decide), pu_let, pe_clamp (show 10 * N + 8 < 2147483648 by omega), show am_I (am_si g 33 (10 * N + 7) (am_I g 0 23)) 0 23 = am_I g 0 23 from pe_ine (by decide)]
theorem RT22_bad {h N : Nat} {g : am_G} (hN : N < 12) (hr : FBo b len h g) : ∃ g', RT22 (nI (10 * N)) g = some ((), g') ∧ FBo b len h g' ∧ FrQ g g' := by
  have a9 : nI (10 * N) + (9 : Int32) = nI (10 * N + 9) := nI_add _ 9
  have h1 : FBo b len h (am_si g 33 (10 * N + 9) 1) := hr.s10 (Or.inr rfl) _ _
  obtain ⟨g', e1, e2, e3⟩ := RT27_bad hN h1
  refine ⟨g', ?_, e2, ((FrQ.rf g).si (by omega) _).tr e3⟩
  unfold RT22
  rw [a9, pe_gd (show 10 * N + 9 < 120 by omega) (by decide), pu_let, pe_clamp (show 10 * N + 9 < 2147483648 by omega), pu_jn, if_neg (show ¬ am_I (am_si g 33 (10 * N + 9) 1) 0 19 = 0 by rw [h1.1]; decide)]
  exact e1
theorem rs_ok {h nl a : Nat} {X : Cd} {g : am_G} (ha : a < 119) (hr : RQ true b len h X nl g) : fX12_readSum (nI a) g = am_bd (fX12_readExpression (nI 0) (am_si g 33 a (nI X.2.2))) (fun _ g' => some ((), am_si g' 33 (a + 1) (am_I g' 0 23))) := by
  obtain ⟨c23, c19, -⟩ := hr.c
  have a1 : nI a + (1 : Int32) = nI (a + 1) := nI_add _ 1
  unfold fX12_readSum
  rw [a1, pe_gd (show a < 120 by omega) (by decide), pu_let, pe_clamp (show a < 2147483648 by omega), c23, if_pos (show am_I (am_si g 33 a (nI X.2.2)) 0 19 = 0 by rw [pe_ine (by decide)]; exact c19), show (0 : Int32) = nI 0 from rfl]
  cases e : fX12_readExpression (nI 0) (am_si g 33 a (nI X.2.2)) with
  | none => rfl
  | some q =>
    obtain ⟨u, g1⟩ := q
    rw [pu_bd, pu_bd, pe_gd (show a + 1 < 120 by omega) (by decide), pu_let, pe_clamp (show a + 1 < 2147483648 by omega)]
theorem rs_bad {h a : Nat} {g : am_G} (ha : a < 119) (hr : FBo b len h g) : ∃ g', fX12_readSum (nI a) g = some ((), g') ∧ FBo b len h g' ∧ FrQ g g' := by
  have a1 : nI a + (1 : Int32) = nI (a + 1) := nI_add _ 1
  refine ⟨am_si (am_si g 33 a (am_I g 0 23)) 33 (a + 1) (am_I g 0 23), ?_, (hr.s10 (Or.inr rfl) _ _).s10 (Or.inr rfl) _ _, ((FrQ.rf g).si (by omega) _).si (by omega) _⟩
  unfold fX12_readSum
  rw [a1, pe_gd (show a < 120 by omega) (by decide), pu_let, pe_clamp (show a < 2147483648 by omega), if_neg (show ¬ am_I (am_si g 33 a (am_I g 0 23)) 0 19 = 0 by rw [pe_ine (by decide), hr.1]; decide), pe_gd (show a + 1 < 120 by omega) (by decide), pu_let, pe_clamp (show a + 1 < 2147483648 by omega), show am_I (am_si g 33 a (am_I g 0 23)) 0 23 = am_I g 0 23 from pe_ine (by decide)]
theorem rb_bad {h a : Nat} {g : am_G} (ha : a < 119) (w : Int64) (hr : FBo b len h g) : ∃ g', fX12_readBehind (nI a) w g = some ((), g') ∧ FBo b len h g' ∧ FrQ g g' := by
  obtain ⟨g', e1, e2, e3⟩ := rs_bad ha hr
  refine ⟨g', ?_, e2, e3⟩
  unfold fX12_readBehind
  rw [if_neg (show ¬ am_I g 0 19 = 0 by rw [hr.1]; decide), e1, pu_bd]
/-- a sum of both, written down -/
def SO (b : Nat → Nat) (len : Nat) (Rc' : Option (Int32 × am_G)) (Rr : Option (Unit × am_G)) (r a h u p : Nat) (X : Cd) (gc gr : am_G) : Prop :=
  ∃ h' u' p' D gc' gr' X', Rc' = some (nI 1, gc') ∧ Rr = some ((), gr') ∧ FcQ gc gc' ∧ FrQ gr gr' ∧ CS true b len h' u' p' 0 gc' ∧ RQ true b len h' X' p' gr' ∧ am_I gr' 0 21 = am_I gr 0 21 ∧ h < h' ∧ u < u' ∧ u' ≤ h' ∧ X'.2.2 + 1 ≤ h' ∧ p' ≤ 50 ∧ am_I gc' 34 = am_up (am_I gc 34) r (nI u) ∧ (∀ i, i < u → am_I gc' 35 i = am_I gc 35 i) ∧ VC (am_I gc' 35) u' u D ∧ am_I gr' 33 = am_up (am_up (am_I gr 33) a (nI X.2.2)) (a + 1) (nI X'.2.2) ∧ VR true X' X.2.2 X'.2.2 D ∧ pfx X X'
theorem tSum (hT : Tp b len) {h u p n j a : Nat} {X : Cd} {gc gr : am_G} (hn : n < 12) (hj : j < 3) (ha : a < 119) (hc : CS true b len h u p 0 gc) (hq : RQ true b len h X p gr) (hX : X.2.2 + 1 ≤ h) (hu : u + 1 ≤ h) (hp : p ≤ 50) : ZF b len (fX5_keepSum (nI n) (nI j) gc) (fX12_readSum (nI a) gr) gc gr ∨ SO b len (fX5_keepSum (nI n) (nI j) gc) (fX12_readSum (nI a) gr) (6 * n + 1 + j) a h u p X gc gr := by
  rw [rs_ok ha hq]
  have q1 := hq.s10 (Or.inr rfl) a (nI X.2.2)
  have f1 : FrQ gr (am_si gr 33 a (nI X.2.2)) := (FrQ.rf gr).si (by omega) _
  have r33 : am_I (am_si gr 33 a (nI X.2.2)) 33 = am_up (am_I gr 33) a (nI X.2.2) := pI_si_row _ _ _ _
  have r21 : am_I (am_si gr 33 a (nI X.2.2)) 0 21 = am_I gr 0 21 := pe_ine (by decide)
  generalize am_si gr 33 a (nI X.2.2) = gr1 at *
  rcases kSum hT hn hj hc q1 hX hu hp with ⟨h', gc', gr', z1, z2, z3, z4, z5, z6, z7⟩ | ⟨h', u', p', D, gc', gr', X', z1, z2, z3, z4, z5, z6, z7, z8, z9, z10, z11, z12, z13, z14, z15, z16, z17, z18, z19⟩
  · refine Or.inl ⟨h', gc', am_si gr' 33 (a + 1) (am_I gr' 0 23), z1, z2, z3, z4, ?_, z6.s10 (Or.inr rfl) _ _, f1.tr (z7.Q.si (by omega) _)⟩
    rw [z5, pu_bd]
  · refine Or.inr ⟨h', u', p', D, gc', am_si gr' 33 (a + 1) (nI X'.2.2), X', z1, ?_, z3, f1.tr (z14.Q.si (by omega) _), z4, z15.s10 (Or.inr rfl) _ _, ?_, z5, z6, z7, z8, z10, z11, z12, z13, ?_, z16, z17⟩
    · rw [z2, pu_bd, z15.c.1]
    · rw [pe_ine (by decide), z14.1 0 21 (by omega) (by omega)]; exact r21
    · rw [pI_si_row, ← r33]
      congr 1
      funext k
      exact z14.1 33 k (by omega) (by omega)
/-- a word and a sum behind it -/
theorem tBeh (hT : Tp b len) {h u p n j a w : Nat} {X : Cd} {gc gr : am_G} (hn : n < 12) (hj : j < 3) (ha : a < 119) (hw1 : 1 ≤ w) (hw2 : w ≤ 27) (hc : CS true b len h u p 0 gc) (hq : RQ true b len h X p gr) (hX : X.2.2 + 1 ≤ h) (hu : u ≤ h) (hp : p ≤ 50) : ZF b len (am_bd (fX5_pass (nI w) gc) fun v g => if v = 0 then some (nI 0, g) else fX5_keepSum (nI n) (nI j) g) (fX12_readBehind (nI a) (wcd w) gr) gc gr ∨ SO b len (am_bd (fX5_pass (nI w) gc) fun v g => if v = 0 then some (nI 0, g) else fX5_keepSum (nI n) (nI j) g) (fX12_readBehind (nI a) (wcd w) gr) (6 * n + 1 + j) a h u p X gc gr := by
  have hb := hc.2.2.2.2.2.2.b hT
  have iw := q12_isWordT hq.tk hw1 hw2
  have st : ∀ v g2, fX12_must v gr = some ((), g2) → fX12_isWord (wcd w) gr = some (v, gr) → fX12_readBehind (nI a) (wcd w) gr = am_bd (fX12_readSum (nI a) g2) (fun _ g12 => some ((), g12)) := by
    intro v g2 h1 h2
    unfold fX12_readBehind
    rw [if_pos (show am_I gr 0 19 = 0 from hq.b0), h2, pu_bd, h1, pu_bd]
  have un : ∀ R : Option (Unit × am_G), am_bd R (fun _ g12 => some ((), g12)) = R := by
    intro R
    cases R with
    | none => rfl
    | some q => rfl
  by_cases ht : tkF b len h = w
  · obtain ⟨pa, ca⟩ := q5_passT hT hc ht (by omega)
    obtain ⟨gr1, e1, r1, f1⟩ := hq.mustT hT
    rw [pb_eq ht] at iw
    rw [pa, pu_bd, if_neg (show ¬ nI 1 = (0 : Int32) by decide), st _ _ e1 iw, un]
    have k35 : am_I (am_si gc 29 7 (nI (h + 1))) 35 = am_I gc 35 := pI_si_ne _ _ _ (by decide)
    have k34 : am_I (am_si gc 29 7 (nI (h + 1))) 34 = am_I gc 34 := pI_si_ne _ _ _ (by decide)
    have fc0 : FcQ gc (am_si gc 29 7 (nI (h + 1))) := (FcQ.rf gc).si (by omega) _
    have r33 : am_I gr1 33 = am_I gr 33 := funext fun k => f1.1 33 k (by omega)
    rcases tSum hT hn hj ha ca r1 (by omega) (by omega) hp with ⟨h', gc', gr', z1, z2, z3, z4, z5, z6, z7⟩ | ⟨h', u', p', D, gc', gr', X', z1, z2, z3, z4, z5, z6, z7, z8, z9, z10, z11, z12, z13, z14, z15, z16, z17, z18⟩
    · exact Or.inl ⟨h', gc', gr', z1, fc0.tr z2, z3, z4, z5, z6, f1.P.Q.tr z7⟩
    · exact Or.inr ⟨h', u', p', D, gc', gr', X', z1, z2, fc0.tr z3, f1.P.Q.tr z4, z5, z6, by rw [z7, f1.1 0 21 (by omega)], by omega, z9, z10, z11, z12, by rw [z13, k34], fun i hi => by rw [z14 i hi, k35], z15, by rw [z16, r33], z17, z18⟩
  · obtain ⟨gr1, e1, r1, f1⟩ := hq.mustF
    rw [pb_ne ht] at iw
    obtain ⟨gr2, t1, t2, t3⟩ := rs_bad ha r1
    refine Or.inl ⟨h, gc, gr2, ?_, FcQ.rf gc, hc.1, hc.2.2.2.2.2.2, ?_, t2, f1.Q.tr t3⟩
    · rw [q5_passF hT hc ht (by omega), pu_bd, if_pos (show nI 0 = (0 : Int32) from rfl)]
    · rw [st _ _ e1 iw, un, t1]
end TCL

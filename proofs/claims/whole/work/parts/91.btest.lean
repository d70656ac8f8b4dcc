/-! ===== behind a test ===== -/
def BT6 (v1 : Int32) (g5 : am_G) : Option (Int32 × am_G) :=
    am_jn (fun (x8 : Int32) (g9 : am_G) =>
      am_bd (fX12_settle x8 g9) fun u11 g12 =>
      am_jn (fun (x15 : Int32) (g16 : am_G) =>
        am_bd (fX12_push x15 (am_I g16 0 23) g16) fun u18 g19 =>
        if v1 = 0 then (
          am_bd (fX12_emit (30 : Int32) (0 : Int32) g19) fun u22 g23 =>
          am_bd (fX12_next g23) fun u25 g26 =>
          some ((0 : Int32), g26))
        else (
          am_bd (fX12_emit (29 : Int32) (0 : Int32) g19) fun u28 g29 =>
          am_bd (fX12_next g29) fun u31 g32 =>
          some ((0 : Int32), g32))) fun j17 =>
      if v1 = 0 then (
        j17 (30 : Int32) g12)
      else (
        j17 (29 : Int32) g12)) fun j10 =>
    if v1 = 0 then (
      j10 (1 : Int32) g5)
    else (
      j10 (2 : Int32) g5)
theorem BT_st (g : am_G) : fX12_behindTest g = (am_bd (fX12_isWord (1476 : Int64) g) fun v1 g2 =>
  am_jn (BT6 v1) fun j6 =>
  if v1 = 0 then (
    am_bd (fX12_isWord (498 : Int64) g2) fun v34 g35 =>
    if v34 = 0 then (
      am_bd (fX12_inner g35) fun v38 g39 =>
      if v38 = (-1 : Int32) then (
        some ((4 : Int32), g39))
      else (
        am_bd (fX12_isSign (41 : Int32) g39) fun v42 g43 =>
        am_bd (fX12_must v42 g43) fun u45 g46 =>
        if (am_I g46 0 19) = 0 then (
          am_bd (fX12_settle (1 : Int32) g46) fun u49 g50 =>
          am_let (am_si g50 0 29 ((am_I g50 0 29) - (1 : Int32))) fun g52 =>
          am_let (am_si g52 0 30 ((am_I g52 0 30) - (1 : Int32))) fun g53 =>
          some ((2 : Int32), g53))
        else (
          some ((2 : Int32), g46))))
    else (
      j6 g35))
  else (
    j6 g2)) := Eq.trans rfl (Eq.trans rfl rfl)
section RPC
variable {md : Bool} {b : Nat → Nat} {len h nl op : Nat} {X : Cd} {pi : List (Nat × Nat)} {g : am_G}
theorem emc_an {o a : Nat} (ho : 29 ≤ o) (l : List (Nat × Nat)) : emc ((o, a) :: l) = emc l := by rw [emc, if_neg (show ¬ (o, a).1 < 29 by show ¬ o < 29; omega)]; rfl
theorem BT_w (hT : Tp b len) {pend base : List (Nat × Nat)} (hr : RS md b len h X nl op (pend ++ base) g) {o lv : Nat} (ho : (o = 29 ∧ lv = 2 ∧ tkF b len h = 9) ∨ (o = 30 ∧ lv = 1 ∧ tkF b len h = 8)) (hp : ∀ q ∈ pend, lv ≤ bnd q.1) (hb : tb base lv) (hl : base.length < 400) (hc : (ems X pend).2.2 + 1 + emc base ≤ 400) : ∃ g', fX12_behindTest g = some (nI 0, g') ∧ RS md b len (h + 1) (emt (ems X pend) o 0) nl op ((o, (ems X pend).2.2) :: base) g' ∧ FrP g g' := by
  have wa := qw_and hr.1.2.2.2.2
  have wo := qw_or hr.1.2.2.2.2
  obtain ⟨g1, e1, s1, f1⟩ := q12_settle (lv := lv) (by omega) (by omega) hb hr.2.1 hp
  obtain ⟨g2, e2, s2, f2⟩ := q12_push s1 (op := o) (at' := (ems X pend).2.2) (by omega) (by omega) (by omega) hl (by rw [emc_an (by omega)]; omega)
  obtain ⟨g3, e3, s3, f3⟩ := q12_emit s2 o 0 (by rw [emc_an (by omega)]; omega)
  obtain ⟨g4, e4, r4, f4⟩ := (((hr.z f1 s1).z f2 s2).z f3 s3).nx hT
  have h23 := s1.1
  refine ⟨g4, ?_, r4, (f1.P.tr f2.P).tr (f3.P.tr f4.P)⟩
  rw [BT_st]
  rcases ho with ⟨rfl, rfl, ht⟩ | ⟨rfl, rfl, ht⟩
  · rw [wa, pb_eq ht, pu_bd, pu_jn, if_neg (show ¬ nI 1 = (0 : Int32) by decide)]
    unfold BT6
    rw [pu_jn, if_neg (show ¬ nI 1 = (0 : Int32) by decide)]
    dsimp only
    rw [show (2 : Int32) = nI 2 from rfl, e1, pu_bd, pu_jn, if_neg (show ¬ nI 1 = (0 : Int32) by decide)]
    dsimp only
    rw [h23, show (29 : Int32) = nI 29 from rfl, e2, pu_bd, if_neg (show ¬ nI 1 = (0 : Int32) by decide), show (0 : Int32) = nI 0 from rfl, e3, pu_bd, e4, pu_bd]
  · rw [wa, pb_ne (show ¬ tkF b len h = 9 by omega), pu_bd, pu_jn, if_pos (show nI 0 = (0 : Int32) from rfl), wo, pb_eq ht, pu_bd, if_neg (show ¬ nI 1 = (0 : Int32) by decide)]
    unfold BT6
    rw [pu_jn, if_pos (show nI 0 = (0 : Int32) from rfl)]
    dsimp only
    rw [show (1 : Int32) = nI 1 from rfl, e1, pu_bd, pu_jn, if_pos (show nI 0 = (0 : Int32) from rfl)]
    dsimp only
    rw [h23, show (30 : Int32) = nI 30 from rfl, e2, pu_bd, if_pos (show nI 0 = (0 : Int32) from rfl), show (0 : Int32) = nI 0 from rfl, e3, pu_bd, e4, pu_bd]
theorem BT_over (hr : RS md b len h X nl op pi g) (h9 : tkF b len h ≠ 9) (h8 : tkF b len h ≠ 8) (hin : inn pi = -nI 1) : fX12_behindTest g = some (nI 4, g) := by
  rw [BT_st, qw_and hr.1.2.2.2.2, pb_ne h9, pu_bd, pu_jn, if_pos (show nI 0 = (0 : Int32) from rfl), qw_or hr.1.2.2.2.2, pb_ne h8, pu_bd, if_pos (show nI 0 = (0 : Int32) from rfl), q12_inner hr.2.1, pu_bd, hin, if_pos (show -nI 1 = (-1 : Int32) from rfl)]
  rfl
theorem BT_close (hT : Tp b len) {pend base : List (Nat × Nat)} (hr : RS md b len h X nl (op + 1) (pend ++ (31, 0) :: base) g) (hp : ∀ q ∈ pend, 1 ≤ bnd q.1) (ht : tkF b len h = 169) (hop : op < 8) : ∃ g', fX12_behindTest g = some (nI 2, g') ∧ RS md b len (h + 1) (ems X pend) nl op base g' ∧ FrP g g' := by
  have hin : inn (pend ++ (31, 0) :: base) = nI 31 := by
    rw [inn_app hp]
    rfl
  have sg := q12_isSignT hr.1.2.2.2.2 (m := 41) (by decide)
  rw [pb_eq (show tkF b len h = 128 + 41 by omega)] at sg
  obtain ⟨g1, e1, r1, f1⟩ := q12_mustT hT hr
  have htb : tb ((31, 0) :: base) 1 := by intro q l e; injection e with e1 e2; rw [← e1]; decide
  obtain ⟨g2, e2, s2, f2⟩ := q12_settle (lv := 1) (by decide) (by decide) htb r1.2.1 hp
  have r2 := r1.z f2 s2
  have h29 : am_I g2 0 29 = nI (base.length + 1) := s2.2.2.1
  have h30 := r2.2.2.2.2.1
  refine ⟨am_si (am_si g2 0 29 (nI base.length)) 0 30 (nI op), ?_, ?_, f1.P.tr (f2.P.tr (((FrP.rf g2).si (by omega) _).si (by omega) _))⟩
  · rw [BT_st, qw_and hr.1.2.2.2.2, pb_ne (show ¬ tkF b len h = 9 by omega), pu_bd, pu_jn, if_pos (show nI 0 = (0 : Int32) from rfl), qw_or hr.1.2.2.2.2, pb_ne (show ¬ tkF b len h = 8 by omega), pu_bd, if_pos (show nI 0 = (0 : Int32) from rfl), q12_inner hr.2.1, pu_bd, hin, if_neg (show ¬ nI 31 = (-1 : Int32) by decide), show (41 : Int32) = nI 41 from rfl, sg, pu_bd, e1, pu_bd, if_pos (show am_I g1 0 19 = 0 from r1.2.2.1), show fX12_settle 1 g1 = some ((), g2) from e2, pu_bd, pu_let, h29, show nI (base.length + 1) - 1 = nI base.length from nI_ms _, pu_let, pe_ik (by decide), h30, show nI (op + 1) - 1 = nI op from nI_ms _]
    rfl
  · obtain ⟨s1, s2', s3, s4, s5, s6, s7, s8⟩ := r2
    refine ⟨s1.cg (fun k _ _ => by rw [pe_ik (by omega), pe_ik (by omega)]) (fun k => by rw [pe_ine (by decide), pe_ine (by decide)]) rfl, ?_, by rw [pe_ik (by decide), pe_ik (by decide)]; exact s3, by rw [pe_ik (by decide), pe_ik (by decide)]; exact s4, pe_ieq _ _ _ _, by rw [pe_ik (by decide), pe_ik (by decide)]; exact s6, s7, s8.1, by rw [pe_ik (by decide), pe_ik (by decide)]; exact s8.2⟩
    obtain ⟨t1, t2, t3, t4, t5, t6, t7⟩ := s2'
    rw [List.length_cons] at t5
    refine ⟨by rw [pe_ik (by decide), pe_ik (by decide)]; exact t1, fun i hi => by rw [pe_ine (by decide), pe_ine (by decide), pe_ine (by decide), pe_ine (by decide)]; exact t2 i hi, by rw [pe_ik (by decide), pe_ieq], t4.2.2.cg (fun j _ => ⟨by rw [pe_ine (by decide), pe_ine (by decide)], by rw [pe_ine (by decide), pe_ine (by decide)]⟩), by omega, ?_, fun q hq => t7 q (List.mem_cons_of_mem _ hq)⟩
    rw [emc, if_neg (by decide)] at t6
    exact t6
theorem BT_closeF (hr : RS md b len h X nl op pi g) (h9 : tkF b len h ≠ 9) (h8 : tkF b len h ≠ 8) (hin : inn pi = nI 31) (ht : tkF b len h ≠ 169) : ∃ g', fX12_behindTest g = some (nI 2, g') ∧ FB b len h g' ∧ FrP g g' := by
  have sg := q12_isSignT hr.1.2.2.2.2 (m := 41) (by decide)
  rw [pb_ne (show ¬ tkF b len h = 128 + 41 by omega)] at sg
  obtain ⟨g1, e1, r1, f1, -, -⟩ := q12_mustF hr
  refine ⟨g1, ?_, r1, f1⟩
  rw [BT_st, qw_and hr.1.2.2.2.2, pb_ne h9, pu_bd, pu_jn, if_pos (show nI 0 = (0 : Int32) from rfl), qw_or hr.1.2.2.2.2, pb_ne h8, pu_bd, if_pos (show nI 0 = (0 : Int32) from rfl), q12_inner hr.2.1, pu_bd, hin, if_neg (show ¬ nI 31 = (-1 : Int32) by decide), show (41 : Int32) = nI 41 from rfl, sg, pu_bd, e1, pu_bd, if_neg (by rw [r1.1]; decide)]
  rfl
end RPC

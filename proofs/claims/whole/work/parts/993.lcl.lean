/-! ===== a clause in the class ===== -/
def RC12 (a1 x10 : Int32) (g11 : am_G) : Option (Int32 × am_G) :=
      if x10 = 0 then (
        some ((0 : Int32), g11))
      else (
        am_bd (fX5_keepTimes a1 g11) fun v14 g15 =>
        if v14 = 0 then (
          some ((0 : Int32), g15))
        else (
          am_bd (fX5_keepTest a1 g15) fun v18 g19 =>
          if v18 = 0 then (
            some ((0 : Int32), g19))
          else (
            some ((1 : Int32), g19))))
def RC5 (a1 x2 : Int32) (g4 : am_G) : Option (Int32 × am_G) :=
    am_let (am_si g4 29 7 ((am_I g4 29 7) + (1 : Int32))) fun g6 =>
    am_gd (am_in ((a1 * (6 : Int32)) + (0 : Int32)) 72) <|
    am_let (am_si g6 34 ((a1 * (6 : Int32)) + (0 : Int32)).toNatClampNeg x2) fun g8 =>
    am_jn (RC12 a1) fun j12 =>
    if x2 = (5 : Int32) then (
      am_bd (fX5_keepSum a1 (0 : Int32) g8) fun v29 g30 =>
      am_jn (fun (x33 : Int32) (g34 : am_G) =>
        j12 x33 g34) fun j35 =>
      am_jn (fun  (g36 : am_G) =>
        j35 (0 : Int32) g36) fun j37 =>
      if v29 = 0 then (
        j37 g30)
      else (
        am_bd (fX5_pass (11 : Int32) g30) fun v38 g39 =>
        if v38 = 0 then (
          j37 g39)
        else (
          am_bd (fX5_keepSum a1 (1 : Int32) g39) fun v42 g43 =>
          if v42 = 0 then (
            j37 g43)
          else (
            am_bd (fX5_pass (13 : Int32) g43) fun v46 g47 =>
            if v46 = 0 then (
              j37 g47)
            else (
              am_bd (fX5_keepSum a1 (2 : Int32) g47) fun v50 g51 =>
              if v50 = 0 then (
                j37 g51)
              else (
                j35 (1 : Int32) g51))))))
    else (
      am_bd (fX11_within x2 (1 : Int32) (3 : Int32) g8) fun v22 g23 =>
      if v22 = 0 then (
        j12 (1 : Int32) g23)
      else (
        am_bd (fX5_keepSum a1 (0 : Int32) g23) fun v26 g27 =>
        j12 v26 g27))
theorem RC_st (a1 : Int32) (g : am_G) : fX5_readClause a1 g = (am_gd (am_in (am_I g 29 7) 401) <|
  am_let (am_I g 31 (am_I g 29 7).toNatClampNeg) fun x2 =>
  am_jn (RC5 a1 x2) fun j5 =>
  if (am_I g 29 10) = 0 then (
    am_bd (fX11_within x2 (5 : Int32) (6 : Int32) g) fun v54 g55 =>
    if v54 = 0 then (
      some ((0 : Int32), g55))
    else (
      j5 g55))
  else (
    am_bd (fX11_within x2 (1 : Int32) (4 : Int32) g) fun v58 g59 =>
    if v58 = 0 then (
      some ((0 : Int32), g59))
    else (
      j5 g59))) := Eq.trans rfl (Eq.trans rfl rfl)
section LCL
variable {b : Nat → Nat} {len : Nat}
theorem RC_hd {md : Bool} (hT : Tp b len) {h u p n : Nat} {g : am_G} (hs : CS md b len h u p 0 g) : fX5_readClause (nI n) g = (if (if md then 5 else 1) ≤ tkF b len h ∧ tkF b len h ≤ (if md then 6 else 4) then RC5 (nI n) (nI (tkF b len h)) g else some (nI 0, g)) := by
  have hb := hs.2.2.2.2.2.2.b hT
  have hl := tk_lt (i := h) hT
  rw [RC_st, hs.1, pe_gd (show h < 401 by omega) (by decide), pu_let, pe_clamp (show h < 2147483648 by omega), hs.tk, pu_jn, hs.2.2.2.2.1]
  cases md
  · rw [if_neg (show ¬ nI (tN !false) = (0 : Int32) by decide), q11_within, pu_bd, if_neg (show ¬ false = true by decide), if_neg (show ¬ false = true by decide)]
    by_cases c : 1 ≤ tkF b len h ∧ tkF b len h ≤ 4
    · rw [pb_eq (show (1 : Int32) ≤ nI (tkF b len h) ∧ nI (tkF b len h) ≤ (4 : Int32) from (wi (a := 1) (b := 4) (by omega) (by decide) (by decide)).mpr c), if_neg (show ¬ nI 1 = (0 : Int32) by decide), if_pos c]
    · rw [pb_ne (show ¬ ((1 : Int32) ≤ nI (tkF b len h) ∧ nI (tkF b len h) ≤ (4 : Int32)) from fun z => c ((wi (a := 1) (b := 4) (by omega) (by decide) (by decide)).mp z)), if_pos (show nI 0 = (0 : Int32) from rfl), if_neg c]
      rfl
  · rw [if_pos (show nI (tN !true) = (0 : Int32) from rfl), q11_within, pu_bd, if_pos (show true = true from rfl), if_pos (show true = true from rfl)]
    by_cases c : 5 ≤ tkF b len h ∧ tkF b len h ≤ 6
    · rw [pb_eq (show (5 : Int32) ≤ nI (tkF b len h) ∧ nI (tkF b len h) ≤ (6 : Int32) from (wi (a := 5) (b := 6) (by omega) (by decide) (by decide)).mpr c), if_neg (show ¬ nI 1 = (0 : Int32) by decide), if_pos c]
    · rw [pb_ne (show ¬ ((5 : Int32) ≤ nI (tkF b len h) ∧ nI (tkF b len h) ≤ (6 : Int32)) from fun z => c ((wi (a := 5) (b := 6) (by omega) (by decide) (by decide)).mp z)), if_pos (show nI 0 = (0 : Int32) from rfl), if_neg c]
      rfl
/-- the head is passed and written -/
theorem RC5_hd {md : Bool} {h u p n c : Nat} {g : am_G} (hn : n < 12) (hs : CS md b len h u p 0 g) (hc : tkF b len h = c) (h1 : 1 ≤ c) (h6 : c ≤ 6) : CS md b len (h + 1) u p 0 (am_si (am_si g 29 7 (nI (h + 1))) 34 (6 * n) (nI c)) ∧ FcQ g (am_si (am_si g 29 7 (nI (h + 1))) 34 (6 * n) (nI c)) ∧ RC5 (nI n) (nI c) g = (if c = 5 then (
      am_bd (fX5_keepSum (nI n) (0 : Int32) (am_si (am_si g 29 7 (nI (h + 1))) 34 (6 * n) (nI c))) fun v29 g30 =>
      am_jn (fun (x33 : Int32) (g34 : am_G) =>
        RC12 (nI n) x33 g34) fun j35 =>
      am_jn (fun  (g36 : am_G) =>
        j35 (0 : Int32) g36) fun j37 =>
      if v29 = 0 then (
        j37 g30)
      else (
        am_bd (fX5_pass (11 : Int32) g30) fun v38 g39 =>
        if v38 = 0 then (
          j37 g39)
        else (
          am_bd (fX5_keepSum (nI n) (1 : Int32) g39) fun v42 g43 =>
          if v42 = 0 then (
            j37 g43)
          else (
            am_bd (fX5_pass (13 : Int32) g43) fun v46 g47 =>
            if v46 = 0 then (
              j37 g47)
            else (
              am_bd (fX5_keepSum (nI n) (2 : Int32) g47) fun v50 g51 =>
              if v50 = 0 then (
                j37 g51)
              else (
                j35 (1 : Int32) g51)))))) else if c ≤ 3 then am_bd (fX5_keepSum (nI n) (0 : Int32) (am_si (am_si g 29 7 (nI (h + 1))) 34 (6 * n) (nI c))) (fun v26 g27 => RC12 (nI n) v26 g27) else RC12 (nI n) (nI 1) (am_si (am_si g 29 7 (nI (h + 1))) 34 (6 * n) (nI c))) := by
  have hR1 : Rch b len (h + 1) := hs.2.2.2.2.2.2.nx (by omega)
  have c1 : CS md b len (h + 1) u p 0 (am_si g 29 7 (nI (h + 1))) := hs.cg ((FcP.rf g).si (by omega) _) (pe_ieq _ _ _ _) (by rw [pe_ik (by decide)]; exact hs.2.1) (by rw [pe_ik (by decide)]; exact hs.2.2.1) (by rw [pe_ik (by decide)]; exact hs.2.2.2.1) hR1
  refine ⟨c1.row _ _, ((FcQ.rf g).si (by omega) _).si (by omega) _, ?_⟩
  have a0 : nI n * (6 : Int32) + (0 : Int32) = nI (6 * n) := cl6 (j := 0) hn
  unfold RC5
  rw [pu_let, hs.1, show nI h + (1 : Int32) = nI (h + 1) from nI_add h 1, a0, pe_gd (show 6 * n < 72 by omega) (by decide), pu_let, pe_clamp (show 6 * n < 2147483648 by omega), pu_jn]
  by_cases h5 : c = 5
  · rw [if_pos h5, if_pos (show nI c = (5 : Int32) by rw [h5]; rfl)]
  · rw [if_neg h5, if_neg (show ¬ nI c = (5 : Int32) from nne (k := 5) (by omega) (by decide) h5), q11_within, pu_bd]
    by_cases h3 : c ≤ 3
    · rw [if_pos h3, pb_eq (show (1 : Int32) ≤ nI c ∧ nI c ≤ (3 : Int32) from (wi (a := 1) (b := 3) (by omega) (by decide) (by decide)).mpr ⟨h1, h3⟩), if_neg (show ¬ nI 1 = (0 : Int32) by decide)]
    · rw [if_neg h3, pb_ne (show ¬ ((1 : Int32) ≤ nI c ∧ nI c ≤ (3 : Int32)) from fun z => h3 ((wi (a := 1) (b := 3) (by omega) (by decide) (by decide)).mp z).2), if_pos (show nI 0 = (0 : Int32) from rfl)]
      rfl
theorem kTimesL {h u p n : Nat} {g : am_G} (hn : n < 12) (hs : CS false b len h u p 0 g) : fX5_keepTimes (nI n) g = some (nI 1, am_si g 34 (6 * n + 5) (nI 1)) := by
  have a0 : nI n * (6 : Int32) + (5 : Int32) = nI (6 * n + 5) := cl6 (j := 5) hn
  unfold fX5_keepTimes
  rw [pu_let, a0, pe_gd (show 6 * n + 5 < 72 by omega) (by decide), pu_let, pe_clamp (show 6 * n + 5 < 2147483648 by omega), if_neg (show ¬ am_I (am_si g 34 (6 * n + 5) 1) 29 10 = 0 by rw [pe_ine (by decide), hs.2.2.2.2.1]; decide)]
  rfl
theorem RC12_0 (a1 : Int32) (g : am_G) : RC12 a1 (nI 0) g = some (nI 0, g) := by
  unfold RC12
  rw [if_pos (show nI 0 = (0 : Int32) from rfl)]
  rfl
theorem RC12_1 (a1 : Int32) (g : am_G) : RC12 a1 (nI 1) g = (am_bd (fX5_keepTimes a1 g) fun v14 g15 =>
        if v14 = 0 then (
          some ((0 : Int32), g15))
        else (
          am_bd (fX5_keepTest a1 g15) fun v18 g19 =>
          if v18 = 0 then (
            some ((0 : Int32), g19))
          else (
            some ((1 : Int32), g19)))) := by
  unfold RC12
  rw [if_neg (show ¬ nI 1 = (0 : Int32) by decide)]
def ZF (b : Nat → Nat) (len : Nat) (Rc' : Option (Int32 × am_G)) (Rr : Option (Unit × am_G)) (gc gr : am_G) : Prop := ∃ h' gc' gr', Rc' = some (nI 0, gc') ∧ FcQ gc gc' ∧ am_I gc' 29 7 = nI h' ∧ Rch b len h' ∧ Rr = some ((), gr') ∧ FBo b len h' gr' ∧ FrQ gr gr'
/-- what the end of a clause says -/
def tlT (md : Bool) (st : Nat → Int32) (u' u1 : Nat) (X' X1 : Cd) (To : Option pD) (x : Int32) : Prop := (To = none ∧ x = -1 ∧ X' = X1) ∨ ∃ T, To = some T ∧ x = nI u1 ∧ VC st u' u1 T ∧ VR md X' X1.2.2 X'.2.2 T ∧ dT T ∧ (md = false → okD T)
def lwTl (b : Nat → Nat) (len : Nat) (Rc' : Option (Int32 × am_G)) (Rr : Option (Unit × am_G)) (n h1 u1 p1 : Nat) (X1 : Cd) (gc gr : am_G) : Prop :=
  ∃ h' u' p' X' To x gc' gr', Rc' = some (nI 1, gc') ∧ Rr = some ((), gr') ∧ FcQ gc gc' ∧ FrQ gr gr' ∧ CS false b len h' u' p' 0 gc' ∧ RQ false b len h' X' p' gr' ∧ am_I gr' 0 21 = am_I gr 0 21 ∧ X'.2.2 + 1 ≤ h' ∧ u1 ≤ u' ∧ u' ≤ h' ∧ p' ≤ 50 ∧ h1 ≤ h' ∧ pfx X1 X' ∧ (∀ i, i < u1 → am_I gc' 35 i = am_I gc 35 i) ∧ am_I gc' 34 = am_up (am_up (am_I gc 34) (6 * n + 5) (nI 1)) (6 * n + 4) x ∧ am_I gr' 10 = am_up (am_up (am_up (am_I gr 10) (8 * n + 4) (nI X1.2.2)) (8 * n + 5) (nI X1.2.2)) (8 * n + 6) (nI X'.2.2) ∧ tlT false (am_I gc' 35) u' u1 X' X1 To x
theorem lawTail (hT : Tp b len) {n h1 u1 p1 : Nat} {X1 : Cd} {gc gr : am_G} (hn : n < 12) (hc : CS false b len h1 u1 p1 0 gc) (hq : RQ false b len h1 X1 p1 gr) (hX : X1.2.2 + 1 ≤ h1) (hu : u1 ≤ h1) (hp : p1 ≤ 50) : ZF b len (RC12 (nI n) (nI 1) gc) (RLt (nI (8 * n)) gr) gc gr ∨ lwTl b len (RC12 (nI n) (nI 1) gc) (RLt (nI (8 * n)) gr) n h1 u1 p1 X1 gc gr := by
  rw [RC12_1, kTimesL hn hc, pu_bd, if_neg (show ¬ nI 1 = (0 : Int32) by decide), RLt_ok hn hq]
  have c1 := hc.row (6 * n + 5) (nI 1)
  have q1 := (hq.s10 (Or.inl rfl) (8 * n + 4) (nI X1.2.2)).s10 (Or.inl rfl) (8 * n + 5) (nI X1.2.2)
  have fc1 : FcQ gc (am_si gc 34 (6 * n + 5) (nI 1)) := (FcQ.rf gc).si (by omega) _
  have fr1 : FrQ gr (am_si (am_si gr 10 (8 * n + 4) (nI X1.2.2)) 10 (8 * n + 5) (nI X1.2.2)) := ((FrQ.rf gr).si (by omega) _).si (by omega) _
  have r34 : am_I (am_si gc 34 (6 * n + 5) (nI 1)) 34 = am_up (am_I gc 34) (6 * n + 5) (nI 1) := pI_si_row _ _ _ _
  have r35 : am_I (am_si gc 34 (6 * n + 5) (nI 1)) 35 = am_I gc 35 := pI_si_ne _ _ _ (by decide)
  have r10 : am_I (am_si (am_si gr 10 (8 * n + 4) (nI X1.2.2)) 10 (8 * n + 5) (nI X1.2.2)) 10 = am_up (am_up (am_I gr 10) (8 * n + 4) (nI X1.2.2)) (8 * n + 5) (nI X1.2.2) := by rw [pI_si_row, pI_si_row]
  have r21 : am_I (am_si (am_si gr 10 (8 * n + 4) (nI X1.2.2)) 10 (8 * n + 5) (nI X1.2.2)) 0 21 = am_I gr 0 21 := by rw [pe_ine (by decide), pe_ine (by decide)]
  generalize am_si gc 34 (6 * n + 5) (nI 1) = gc1 at *
  generalize am_si (am_si gr 10 (8 * n + 4) (nI X1.2.2)) 10 (8 * n + 5) (nI X1.2.2) = gr1 at *
  rcases kTest hT hn c1 q1 hX hu hp with ⟨e1, e2⟩ | ⟨h', gc', gr', z1, z2, z3, z4, z5, z6, z7⟩ | ⟨h', u', p', D, gc', gr', X', z1, z2, z3, z4, z5, z6, z7, z8, z9, z10, z11, z12, z13, z14, z15, z16, z17, z18, z19⟩
  · refine Or.inr ⟨h1, u1, p1, X1, none, -1, am_si gc1 34 (6 * n + 4) (-1), am_si gr1 10 (8 * n + 6) (nI X1.2.2), ?_, ?_, fc1.tr ((FcQ.rf gc1).si (by omega) _), fr1.tr ((FrQ.rf gr1).si (by omega) _), c1.row _ _, q1.s10 (Or.inl rfl) _ _, by rw [pe_ine (by decide)]; exact r21, hX, Nat.le_refl _, hu, hp, Nat.le_refl _, pfx.rf X1, fun i hi => by rw [pe_ine (by decide), r35], by rw [pI_si_row, r34], by rw [pI_si_row, r10], Or.inl ⟨rfl, rfl, rfl⟩⟩
    · rw [e1, pu_bd, if_neg (show ¬ nI 1 = (0 : Int32) by decide)]
      rfl
    · rw [e2, pu_bd, q1.c.1]
  · refine Or.inl ⟨h', gc', am_si gr' 10 (8 * n + 6) (am_I gr' 0 23), ?_, fc1.tr z2, z3, z4, ?_, z6.s10 (Or.inl rfl) _ _, fr1.tr (z7.Q.si (by omega) _)⟩
    · rw [z1, pu_bd, if_pos (show nI 0 = (0 : Int32) from rfl)]
      rfl
    · rw [z5, pu_bd]
  · refine Or.inr ⟨h', u', p', X', some D, nI u1, gc', am_si gr' 10 (8 * n + 6) (nI X'.2.2), ?_, ?_, fc1.tr z3, fr1.tr (z14.Q.si (by omega) _), z4, z15.s10 (Or.inl rfl) _ _, by rw [pe_ine (by decide), z14.1 0 21 (by omega) (by omega)]; exact r21, z8, by omega, z7, z10, by omega, z17, fun i hi => by rw [z12 i hi, r35], by rw [z11, r34], ?_, Or.inr ⟨D, rfl, rfl, z13, z16, z18 trivial, z19⟩⟩
    · rw [z1, pu_bd, if_neg (show ¬ nI 1 = (0 : Int32) by decide)]
      rfl
    · rw [z2, pu_bd, z15.c.1]
    · rw [pI_si_row, ← r10]
      congr 1
      funext k
      exact z14.1 10 k (by omega) (by omega)
end LCL

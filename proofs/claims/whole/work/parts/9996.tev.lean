/-! ===== what talks know, on both sides ===== -/
def cpo (g : am_G) (a b j n : Nat) : am_G := am_sr g b (fun k => if j ≤ k ∧ k < j + n then am_I g a (k - j) else am_I g b k)
theorem cp_cpo (g : am_G) (a b j n : Nat) : am_cp g a b 0 j n = cpo g a b j n := by
  unfold am_cp cpo va_cpy
  congr 1
  funext k
  by_cases h : j ≤ k ∧ k < j + n
  · rw [if_pos (by omega), if_pos h]; congr 1; omega
  · rw [if_neg (by omega), if_neg h]
theorem q0_know {g : am_G} {p : Nat} (hp : okP p) (hP : PkS g p) (x2 : Int32) : ∃ g', fX0_knowTalks p x2 g = some ((), g') ∧ FcA g g' ∧ am_I g' 37 22 = vr g 1 p 6 ∧ am_I g' 37 23 = am_I g 12 4 ∧ am_I g' 37 24 = am_I g 37 24 ∧ am_I g' 37 25 = am_I g 37 25 ∧ am_I g' 37 26 = vr g 1 p 8 - x2 ∧ ∀ s, s < 6 → am_I g' 37 (28 + s) = vr g 1 p (10 + 10 * s + 0) ∧ am_I g' 37 (34 + s) = vr g 1 p (10 + 10 * s + 8) := by
  obtain ⟨h0, h1, h2, h3, h4, h5, s1, s2, s3, s4, s5⟩ := hP
  have n0 : p ≠ 37 := by unfold okP at hp; omega
  have n1 : p + 1 ≠ 37 := by unfold okP at hp; omega
  have n2 : p + 2 ≠ 37 := by unfold okP at hp; omega
  have e5 : ∀ k x, am_I (am_si g 37 k x) p = am_I g p := fun k x => pI_si_ne _ _ _ n0
  refine ⟨cpo (cpo (am_si (am_si (am_si g 37 22 (am_I g p 5)) 37 23 (am_I g 12 4)) 37 26 (am_I g p 6 - x2)) (p + 1) 37 28 6) (p + 2) 37 34 6, ?_, ?_, ?_, ?_, ?_, ?_, ?_, ?_⟩
  · unfold fX0_knowTalks
    rw [pu_gd (decide_eq_true h0), pu_gd (show am_in (22 : Int32) 40 = true from rfl), pu_let, pu_gd (show am_in (23 : Int32) 40 = true from rfl), pu_let, pS_si, pS_si, pu_gd (decide_eq_true h0), pu_gd (show am_in (26 : Int32) 40 = true from rfl), pu_let, pS_si, pS_si, pS_si, pu_gd (decide_eq_true h0), show (22 : Int32).toNatClampNeg = 22 from rfl, show (23 : Int32).toNatClampNeg = 23 from rfl, show (26 : Int32).toNatClampNeg = 26 from rfl, show (28 : Int32).toNatClampNeg = 28 from rfl, show (34 : Int32).toNatClampNeg = 34 from rfl, show (0 : Int32).toNatClampNeg = 0 from rfl, show (6 : Int32).toNatClampNeg = 6 from rfl, pe_ine (show (12 : Nat) ≠ 37 by decide), pe_ine n0, pe_ine n0]
    generalize hG : am_si (am_si (am_si g 37 22 (am_I g p 5)) 37 23 (am_I g 12 4)) 37 26 (am_I g p 6 - x2) = G
    have GP : am_P G = am_P g := by rw [← hG]; rfl
    have GS : am_S G = am_S g := by rw [← hG]; rfl
    rw [GP, h1, pu_ocs, s1, pu_gd (show decide ((20, 6).1 = 20) = true from rfl), pu_gd (show am_co (0 : Int32) (28 : Int32) (6 : Int32) (20, 6).2 40 = true by decide), pu_let, cp_cpo]
    have GP2 : am_P (cpo G (p + 1) 37 28 6) = am_P g := GP
    have GS2 : am_S (cpo G (p + 1) 37 28 6) = am_S g := GS
    rw [GS2, pu_gd (decide_eq_true h0), GP2, h2, pu_ocs, s2, pu_gd (show decide ((20, 6).1 = 20) = true from rfl), pu_gd (show am_co (0 : Int32) (34 : Int32) (6 : Int32) (20, 6).2 40 = true by decide), pu_let, cp_cpo]
  · refine ⟨rfl, fun a h37 h38 => ?_⟩
    unfold cpo
    rw [pI_sr_ne _ _ h37, pI_sr_ne _ _ h37, pI_si_ne _ _ _ h37, pI_si_ne _ _ _ h37, pI_si_ne _ _ _ h37]
  · unfold cpo
    rw [pI_sr_row, if_neg (by decide), pI_sr_row, if_neg (by decide), pe_ik (by decide), pe_ik (by decide), pe_ieq, r_da]
  · unfold cpo
    rw [pI_sr_row, if_neg (by decide), pI_sr_row, if_neg (by decide), pe_ik (by decide), pe_ieq]
  · unfold cpo
    rw [pI_sr_row, if_neg (by decide), pI_sr_row, if_neg (by decide), pe_ik (by decide), pe_ik (by decide), pe_ik (by decide)]
  · unfold cpo
    rw [pI_sr_row, if_neg (by decide), pI_sr_row, if_neg (by decide), pe_ik (by decide), pe_ik (by decide), pe_ik (by decide)]
  · unfold cpo
    rw [pI_sr_row, if_neg (by decide), pI_sr_row, if_neg (by decide), pe_ieq, r_ha]
  · intro s hs
    unfold cpo
    constructor
    · rw [pI_sr_row, if_neg (by omega), pI_sr_row, if_pos (by omega), pI_si_ne _ _ _ n1, pI_si_ne _ _ _ n1, pI_si_ne _ _ _ n1, show 28 + s - 28 = s by omega, r_sn hs]
    · rw [pI_sr_row, if_pos (by omega), pI_sr_ne _ _ n2, pI_si_ne _ _ _ n2, pI_si_ne _ _ _ n2, pI_si_ne _ _ _ n2, show 34 + s - 34 = s by omega, r_st hs]
/-- the reference's setting -/
def rset (g : am_G) : am_G := am_si (am_sl (am_sl (am_sl (am_sl (am_sl g 19 1 (am_I g 2 6).toInt64) 19 2 (am_I g 2 0).toInt64) 19 3 (am_I g 0 56).toInt64) 19 4 (am_I g 0 57).toInt64) 19 5 (am_I g 2 8 - am_I g 0 58).toInt64) 0 60 (nI 0)
def RJ26 (x24 : Int32) (g25 : am_G) : Option (Int32 × am_G) :=
      if 0 ≤ x24 then (
        am_let (am_si g25 0 57 ((am_I g25 0 57) + x24)) fun g28 =>
        am_let (am_si g28 0 56 ((am_I g28 0 56) + (1 : Int32))) fun g29 =>
        some ((0 : Int32), g29))
      else (
        some ((-3 : Int32), g25))
def RJ21 (a1 : Int32) (g20 : am_G) : Option (Int32 × am_G) :=
    am_gd (am_in a1 120) <|
    am_jn RJ26 fun j26 =>
    if (am_I g20 33 a1.toNatClampNeg) = (1 : Int32) then (
      am_bd (fX12_dawnNow g20) fun v49 g50 =>
      j26 v49 g50)
    else (
      am_bd (fX12_sumOf (a1 + (1 : Int32)) g20) fun w30 g31 =>
      am_let (w30.toInt32) fun x33 =>
      am_bd (fX12_sumOf (a1 + (3 : Int32)) g31) fun w34 g35 =>
      am_let (w34.toInt32) fun x37 =>
      am_bd (fX12_sumOf (a1 + (5 : Int32)) g35) fun w38 g39 =>
      am_let (w38.toInt32) fun x41 =>
      am_jn (fun (x43 : Int32) (g44 : am_G) =>
        j26 x43 g44) fun j45 =>
      if (am_I g39 0 60) = 0 then (
        am_bd (fX12_sayNow (0 : Int32) x33 x37 x41 g39) fun v46 g47 =>
        j45 v46 g47)
      else (
        j45 (-3 : Int32) g39))
def RnT (a1 : Int32) (g16 : am_G) : Option (Int32 × am_G) :=
  am_gd (am_in (a1 + (7 : Int32)) 120) <|
  am_gd (am_in (a1 + (8 : Int32)) 120) <|
  am_jn (RJ21 a1) fun j21 =>
  if (am_I g16 33 (a1 + (8 : Int32)).toNatClampNeg) ≤ (am_I g16 33 (a1 + (7 : Int32)).toNatClampNeg) then (
    j21 g16)
  else (
    am_bd (fX12_sumOf (a1 + (7 : Int32)) g16) fun w52 g53 =>
    if (am_I g53 0 60) = 0 then (
      if (lg_cmp w52 (0 : Int64)) = 0 then (
        some ((0 : Int32), g53))
      else (
        j21 g53))
    else (
      some ((0 : Int32), g53)))
theorem run_st (a1 : Int32) (g : am_G) : fX12_run a1 g = RnT a1 (rset g) := by
  unfold fX12_run
  rw [q12_day, pu_bd, pu_gd (show am_in (1 : Int32) 13 = true from rfl), pu_let, pu_gd (show am_in (0 : Int32) 5660 = true from rfl), pu_gd (show am_in (2 : Int32) 13 = true from rfl), pu_let, pu_gd (show am_in (3 : Int32) 13 = true from rfl), pu_let, pu_gd (show am_in (4 : Int32) 13 = true from rfl), pu_let, pu_gd (show am_in (8 : Int32) 5660 = true from rfl), pu_gd (show am_in (5 : Int32) 13 = true from rfl), pu_let, pu_let]
  unfold RnT RJ21 RJ26 rset
  rfl
/-- the reckoning's own cells -/
def FrJ (g g' : am_G) : Prop := (∀ a k, ¬ (a = 0 ∧ (k = 20 ∨ k = 38 ∨ k = 60)) → am_I g' a k = am_I g a k) ∧ (∀ a k, a ≠ 19 → a ≠ 20 → ¬ (a = 0 ∧ k = 39) → am_L g' a k = am_L g a k) ∧ g'.2.2 = g.2.2
theorem FrJ.rf (g : am_G) : FrJ g g := ⟨fun _ _ _ => rfl, fun _ _ _ _ _ => rfl, rfl⟩
theorem FrJ.tr {g h i : am_G} (h1 : FrJ g h) (h2 : FrJ h i) : FrJ g i := ⟨fun a k x => (h2.1 a k x).trans (h1.1 a k x), fun a k x y z => (h2.2.1 a k x y z).trans (h1.2.1 a k x y z), h2.2.2.trans h1.2.2⟩
theorem FrJ.si {g h : am_G} (h1 : FrJ g h) {k : Nat} (hk : k = 20 ∨ k = 38 ∨ k = 60) (x : Int32) : FrJ g (am_si h 0 k x) := ⟨fun b j y => by rw [pI_si, if_neg (fun q => y ⟨q.1, by omega⟩)]; exact h1.1 b j y, h1.2.1, h1.2.2⟩
theorem FrJ.sl {g h : am_G} (h1 : FrJ g h) {a k : Nat} (hk : a = 19 ∨ (a = 0 ∧ k = 39)) (x : Int64) : FrJ g (am_sl h a k x) := ⟨h1.1, fun b j y z w => by rw [pL_sl, if_neg (fun q => by omega)]; exact h1.2.1 b j y z w, h1.2.2⟩
theorem FrJ.srL {g h : am_G} (h1 : FrJ g h) (f : Nat → Int64) : FrJ g (am_srL h 20 f) := ⟨h1.1, fun b j y z w => by rw [rL_ne _ _ z]; exact h1.2.1 b j y z w, h1.2.2⟩
theorem rset_fr (g : am_G) : FrJ g (rset g) := by
  unfold rset
  exact ((((((FrJ.rf g).sl (Or.inl rfl) _).sl (Or.inl rfl) _).sl (Or.inl rfl) _).sl (Or.inl rfl) _).sl (Or.inl rfl) _).si (by omega) _

/-! ===== bring: the class begins ===== -/
def ldA (bl : Nat → Nat) (tg : Nat) : Nat → Nat → Bool
  | 0 => fun _ => false
  | n + 1 => bup (ldA bl tg n) (5 - n) (decide (5 - n = tg) || (decide (bl (5 - n) < 6) && ldA bl tg n (bl (5 - n))))
theorem ldA_st {bl : Nat → Nat} {tg t : Nat} : ∀ {n m : Nat}, n ≤ m → m ≤ 6 → 6 - n ≤ t → t < 6 → ldA bl tg m t = ldA bl tg n t
  | n, 0, h, _, _, _ => by rw [show n = 0 by omega]
  | n, m + 1, h, hm, h1, h2 => by
    by_cases e : n = m + 1
    · rw [e]
    · rw [ldA, bup_ne (by omega)]
      exact ldA_st (n := n) (m := m) (by omega) (by omega) h1 h2
theorem ldA_eq {bl : Nat → Nat} {tg s : Nat} (hs : s < 6) (hbl : bl s < 6 → s < bl s) : ldA bl tg 6 s = (decide (s = tg) || (decide (bl s < 6) && ldA bl tg 6 (bl s))) := by
  rw [ldA_st (n := 5 - s + 1) (m := 6) (by omega) (by omega) (by omega) hs, ldA, show 5 - (5 - s) = s by omega, bup_eq]
  by_cases e : bl s < 6
  · rw [ldA_st (n := 5 - s) (m := 6) (t := bl s) (by omega) (by omega) (by have := hbl e; omega) e]
  · rw [decide_eq_false e, Bool.false_and, Bool.false_and]
theorem ldA_X {bl : Nat → Nat} {tg : Nat} (htg : tg < 6) (hbl : ∀ s, s < 6 → bl s < 6 → s < bl s) : LdX bl tg (ldA bl tg 6) := by
  refine ⟨by rw [ldA_eq htg (hbl tg htg), decide_eq_true rfl]; rfl, fun s hs hb hl => ?_⟩
  rw [ldA_eq hs (hbl s hs), hl, decide_eq_true hb, Bool.true_and, Bool.or_true]
section BGN
variable {q : Option pLw} {ρ0 : Row} {O pl tg : Nat} {op : Nat → Bool} {SH : Nat → Nat → Nat → Nat} {hd bl : Nat → Nat} {gg : Nat → Bool}
theorem bgL45 {K : am_G → Option (Unit × am_G)} (hO : O ≤ 48) (hpl : pl < 4) (hV : okV ρ0) (hop : ∀ o, o < O → op o = !brd q ρ0 (o / 3) pl (o % 3 + 1)) : ∀ (e o m : Nat) (g : am_G), o + e = O → e < m → am_I g 51 12 = nI O → BFc q ρ0 g → (∀ o', o' < o → am_I g 52 o' = (if op o' = true then nI 1 else nI 0)) → ∃ g', fX1_begin_L45 K (nI pl) m (nI o) g = K g' ∧ (g'.2 = g.2 ∧ ∀ a, a ≠ 37 → a ≠ 38 → a ≠ 52 → am_I g' a = am_I g a) ∧ BFc q ρ0 g' ∧ ∀ o', o' < O → am_I g' 52 o' = (if op o' = true then nI 1 else nI 0)
  | 0, o, m, g, he, hm, h12, hB, h52 => by
    obtain ⟨m, rfl⟩ : ∃ m', m = m' + 1 := ⟨m - 1, by omega⟩
    obtain rfl : o = O := by omega
    refine ⟨g, ?_, ⟨rfl, fun _ _ _ _ => rfl⟩, hB, h52⟩
    rw [fX1_begin_L45, h12, if_pos Int32.le_rfl]
  | e + 1, o, m, g, he, hm, h12, hB, h52 => by
    obtain ⟨m, rfl⟩ : ∃ m', m = m' + 1 := ⟨m - 1, by omega⟩
    have ho : o < O := by omega
    have hw : o / 3 < 16 := by omega
    have hB' := hB
    obtain ⟨b1, b2, b3, b4⟩ := hB'
    obtain ⟨g1, e1, f1, S1⟩ := q0_ofSaid (g := g) (ρ := ρ0) hw pl (o % 3 + 1) (by rw [(vr_wd (p := 2) hw).1, b2]) (by rw [(vr_wd (p := 2) hw).2, b2]) b3 b4
    obtain ⟨g2, e2, f2, S2⟩ := q0_bars (b1.fc f1) hV hw hpl (by omega) S1
    have f12 := f1.tr f2
    have e3 : nI o / (3 : Int32) = nI (o / 3) := pdv (d := 3) (by omega) (by decide) (by decide)
    have e3' : nI o - nI (o / 3) * (3 : Int32) + (1 : Int32) = nI (o % 3 + 1) := by
      have := md_N (X := o) (N := 3) (by omega) (by decide) (by decide)
      rw [show nI 3 = (3 : Int32) from rfl, e3] at this
      rw [this]
      exact nI_add _ 1
    have eo : nI o + (1 : Int32) = nI (o + 1) := nI_add o 1
    have hov := hop o ho
    have hB3 : BFc q ρ0 (am_si g2 52 o (if op o = true then nI 1 else nI 0)) := ⟨(b1.fc f12).gen rfl (by rw [pI_si_ne _ _ _ (by decide)]) (fun a ha => by rw [pI_si_ne _ _ _ (by omega)]), by rw [← b2]; exact vr_cg fun a ha => by rw [pI_si_ne _ _ _ (by omega), f12.2 a (by omega) (by omega)], by rw [pe_ine (by decide)]; exact S2.2.2.2.2.2.1, by rw [pe_ine (by decide)]; exact S2.2.2.2.2.2.2⟩
    obtain ⟨g', c1, c2, c3, c4⟩ := bgL45 (K := K) hO hpl hV hop e (o + 1) m (am_si g2 52 o (if op o = true then nI 1 else nI 0)) (by omega) (by omega) (by rw [pe_ine (by decide), f12.2 51 (by decide) (by decide)]; exact h12) hB3 (fun o' h1 => by
      by_cases z : o' = o
      · subst z; rw [pe_ieq]
      · rw [pe_ik z, f12.2 52 (by decide) (by decide)]; exact h52 o' (by omega))
    refine ⟨g', ?_, ⟨c2.1.trans f12.1, fun a x y z => by rw [c2.2 a x y z, pI_si_ne _ _ _ z, f12.2 a x y]⟩, c3, c4⟩
    rw [fX1_begin_L45, h12, if_neg (fun z => absurd ((nI_leI (by omega) (by omega)).mp z) (by omega)), e3, e3', e1, pu_bd, e2, pu_bd, pu_jn]
    dsimp only
    have zb : am_zb (if op o = true then nI 1 else nI 0) = true := by
      by_cases z : op o = true
      · rw [if_pos z]; rfl
      · rw [if_neg z]; rfl
    have fin : ∀ x : Int32, x = (if op o = true then nI 1 else nI 0) → (am_gd (am_in (nI o) 48) <| am_gd (am_zb x) <| am_let (am_si g2 52 (nI o).toNatClampNeg x) fun g23 => am_let (nI o + (1 : Int32)) fun x24 => fX1_begin_L45 K (nI pl) m x24 g23) = K g' := by
      intro x hx
      rw [hx, pe_gd (show o < 48 by omega) (by decide), pu_gd zb, pu_let, pu_let, pe_clamp (show o < 2147483648 by omega), eo]
      exact c1
    by_cases hb : brd q ρ0 (o / 3) pl (o % 3 + 1) = true
    · rw [pb_t hb, if_neg (show ¬ nI 1 = (0 : Int32) by decide)]
      exact fin 0 (by rw [hov, hb]; rfl)
    · rw [pb_f hb, if_pos (show nI 0 = (0 : Int32) from rfl)]
      exact fin 1 (by rw [hov, Bool.eq_false_iff.mpr hb]; rfl)
theorem bgL148 (htg : tg < 6) : ∀ (i m : Nat) (g : am_G), i ≤ 6 → i < m → am_I g 51 13 = nI tg → (∀ s, s < 6 → (bl s < 6 → s < bl s ∧ am_I g 9 s = nI (bl s)) ∧ (¬ bl s < 6 → am_I g 9 s = -1)) → (∀ t, i ≤ t → t < 6 → am_I g 53 t = (if ldA bl tg (6 - i) t = true then nI 1 else nI 0)) → ∃ g', fX1_begin_L148 m (nI i - (1 : Int32)) g = some ((), g') ∧ (g'.2 = g.2 ∧ ∀ a, a ≠ 53 → am_I g' a = am_I g a) ∧ ∀ t, t < 6 → am_I g' 53 t = (if ldA bl tg 6 t = true then nI 1 else nI 0)
  | 0, m, g, hi, hm, h13, h9, h53 => by
    obtain ⟨m, rfl⟩ : ∃ m', m = m' + 1 := ⟨m - 1, by omega⟩
    refine ⟨g, ?_, ⟨rfl, fun _ _ => rfl⟩, fun t ht => h53 t (by omega) ht⟩
    rw [fX1_begin_L148, if_pos (show nI 0 - (1 : Int32) < 0 by decide)]
  | i + 1, m, g, hi, hm, h13, h9, h53 => by
    obtain ⟨m, rfl⟩ : ∃ m', m = m' + 1 := ⟨m - 1, by omega⟩
    have hi6 : i < 6 := by omega
    have e5 : 6 - i = 5 - i + 1 := by omega
    have hld : ldA bl tg (6 - i) = bup (ldA bl tg (5 - i)) i (decide (i = tg) || (decide (bl i < 6) && ldA bl tg (5 - i) (bl i))) := by rw [e5, ldA, show 5 - (5 - i) = i by omega]
    -- the place is set
    have fin : ∀ x : Int32, x = (if ldA bl tg (6 - i) i = true then nI 1 else nI 0) → ∃ g', (am_gd (am_in (nI i) 6) <| am_gd (am_zb x) <| am_let (am_si g 53 i x) fun g44 => am_let (nI i + (-1 : Int32)) fun x45 => fX1_begin_L148 m x45 g44) = some ((), g') ∧ (g'.2 = g.2 ∧ ∀ a, a ≠ 53 → am_I g' a = am_I g a) ∧ ∀ t, t < 6 → am_I g' 53 t = (if ldA bl tg 6 t = true then nI 1 else nI 0) := by
      intro x hx
      have zb : am_zb x = true := by
        rw [hx]
        by_cases z : ldA bl tg (6 - i) i = true
        · rw [if_pos z]; rfl
        · rw [if_neg z]; rfl
      obtain ⟨g', c1, c2, c3⟩ := bgL148 htg i m (am_si g 53 i x) (by omega) (by omega) (by rw [pe_ine (by decide)]; exact h13) (fun s hs => by rw [pe_ine (by decide)]; exact h9 s hs) (fun t h1 h2 => by
        by_cases z : t = i
        · subst z; rw [pe_ieq]; exact hx
        · rw [pe_ik z, h53 t (by omega) h2, show 6 - (i + 1) = 5 - i by omega, hld, bup_ne z])
      refine ⟨g', ?_, ⟨c2.1, fun a ha => by rw [c2.2 a ha, pI_si_ne _ _ _ ha]⟩, c3⟩
      rw [pe_gd (show i < 6 from hi6) (by decide), pu_gd zb, pu_let, pu_let, ← Int32.sub_eq_add_neg]
      exact c1
    rw [fX1_begin_L148, show nI (i + 1) - (1 : Int32) = nI i from nI_ms i, if_neg (show ¬ nI i < (0 : Int32) from fun z => absurd ((nI_ltI (b := 0) (by omega) (by decide)).mp z) (by omega)), pe_gd (show i < 6 from hi6) (by decide), pu_let, pu_jn]
    dsimp only
    rw [pu_jn]
    dsimp only
    rw [h13, pe_clamp (show i < 2147483648 by omega)]
    by_cases ht : i = tg
    · rw [if_pos (by rw [ht])]
      exact fin 1 (by rw [hld, bup_eq, decide_eq_true ht]; rfl)
    · rw [if_neg (fun z => ht ((nn_eq (by omega) (by omega)).mp z)), q11_isSlope, pu_bd, pu_jn]
      dsimp only
      by_cases hb : bl i < 6
      · obtain ⟨c1, c2⟩ := (h9 i hi6).1 hb
        rw [c2, pb_t (show nI 0 ≤ nI (bl i) ∧ nI (bl i) ≤ nI 5 from ⟨(nI_leI (by decide) (by omega)).mpr (by omega), (nI_leI (by omega) (by decide)).mpr (by omega)⟩), if_neg (show ¬ nI 1 = (0 : Int32) by decide), if_neg (fun z => absurd ((nI_leI (by omega) (by omega)).mp z) (by omega)), pe_gd (show bl i < 6 from hb) (by decide), pe_clamp (show bl i < 2147483648 by omega), h53 (bl i) (by omega) hb, show 6 - (i + 1) = 5 - i by omega]
        by_cases hl : ldA bl tg (5 - i) (bl i) = true
        · rw [if_pos hl, if_neg (show ¬ nI 1 = (0 : Int32) by decide)]
          exact fin 1 (by rw [hld, bup_eq, decide_eq_true hb, hl, Bool.true_and, Bool.or_true]; rfl)
        · rw [if_neg hl, if_pos (show nI 0 = (0 : Int32) from rfl)]
          exact fin 0 (by rw [hld, bup_eq, decide_eq_false ht, Bool.eq_false_iff.mpr hl, Bool.and_false]; rfl)
      · rw [(h9 i hi6).2 hb, pb_f (show ¬ (nI 0 ≤ (-1 : Int32) ∧ (-1 : Int32) ≤ nI 5) by decide), if_pos (show nI 0 = (0 : Int32) from rfl)]
        exact fin 0 (by rw [hld, bup_eq, decide_eq_false ht, decide_eq_false hb, Bool.false_and]; rfl)
theorem q1_begin {C nW : Nat} {X : Xst} {g : am_G} (hnW : nW ≤ 16) (hO : O = 3 * nW) (hpl : pl < 4) (htg : tg < 6) (hV : okV ρ0) (hop : ∀ o, o < O → op o = !brd q ρ0 (o / 3) pl (o % 3 + 1)) (h12 : am_I g 12 4 = nI nW) (hq : LawC g q) (hr : vr g 1 2 = ρ0) (hS56 : am_S g 56 = (20, 6)) (hF : FxR hd bl gg ρ0) (hP : PrR C ρ0 X) : ∃ g', fX1_begin (nI tg) (nI pl) g = some ((), g') ∧ FcB g g' ∧ SVl q ρ0 O pl tg op SH hd bl gg (ldA bl tg 6) C 0 X 0 g' := by
  have hfu : am_fu = 1048576 := rfl
  have hO48 : O ≤ 48 := by omega
  have e12 : am_I (am_si (am_si g 51 13 (nI tg)) 51 14 (nI pl)) 12 4 * (3 : Int32) = nI O := by rw [pe_ine (by decide), pe_ine (by decide), h12, show (3 : Int32) = nI 3 from rfl, nn_mul, hO, Nat.mul_comm]
  obtain ⟨g1, o1, f1, d1, d2, d3⟩ := q0_onDay (am_I (am_si (am_si (am_si g 51 13 (nI tg)) 51 14 (nI pl)) 51 12 (nI O)) 2 5) (am_si (am_si (am_si g 51 13 (nI tg)) 51 14 (nI pl)) 51 12 (nI O))
  have k1 : ∀ a, a ≠ 37 → a ≠ 38 → a ≠ 51 → am_I g1 a = am_I g a := fun a x y z => by rw [f1.2 a x y, pI_si_ne _ _ _ z, pI_si_ne _ _ _ z, pI_si_ne _ _ _ z]
  have k51 : ∀ j, am_I g1 51 j = am_I (am_si (am_si (am_si g 51 13 (nI tg)) 51 14 (nI pl)) 51 12 (nI O)) 51 j := fun j => by rw [f1.2 51 (by decide) (by decide)]
  have hB1 : BFc q ρ0 g1 := ⟨hq.gen f1.1 (k1 1 (by decide) (by decide) (by decide)) (fun a ha => k1 a (by omega) (by omega) (by omega)), by rw [← hr]; exact vr_cg fun a ha => k1 a (by omega) (by omega) (by omega), by rw [d2, pe_ine (by decide), pe_ine (by decide), pe_ine (by decide), r_mo (p := 2), hr], by rw [d1, pe_ine (by decide), pe_ine (by decide), pe_ine (by decide), show am_I g 2 5 = vr g 1 2 6 from r_da, hr]⟩
  obtain ⟨g2, b1, b2, b3, b4⟩ := bgL45 (K := fun  (g25 : am_G) =>
    am_bd (fJ7_fill_53178 zc_n 56 (0 : Int32) g25) fun u26 g27 =>
    am_gd (am_co (0 : Int32) (0 : Int32) (6 : Int32) 6 24) <|
    am_let (am_cp g27 3 58 (0 : Int32).toNatClampNeg (0 : Int32).toNatClampNeg (6 : Int32).toNatClampNeg) fun g30 =>
    am_gd (am_co (0 : Int32) (0 : Int32) (6 : Int32) 6 24) <|
    am_let (am_cp g30 4 59 (0 : Int32).toNatClampNeg (0 : Int32).toNatClampNeg (6 : Int32).toNatClampNeg) fun g32 =>
    fX1_begin_L148 am_fu (5 : Int32) g32) hO48 hpl hV hop O 0 am_fu g1 (by omega) (by omega) (by rw [k51, pe_ieq]) hB1 (fun o' h => absurd h (by omega))
  have hfl := qJ_fill (fx := zc_n) (a := 56) (len := 6) (by decide) (nI 0) (g := g2) (by rw [show am_S g2 = am_S g from congrArg (fun z => z.2.2.1) (b2.1.trans f1.1)]; exact hS56)
  generalize hG3 : cpo (cpo (am_sr g2 56 (fun k => if k < 6 then nI 0 else am_I g2 56 k)) 3 58 0 6) 4 59 0 6 = g3
  have k3 : ∀ a, a ≠ 56 → a ≠ 58 → a ≠ 59 → am_I g3 a = am_I g2 a := fun a x y z => by
    rw [← hG3]
    unfold cpo
    rw [pI_sr_ne _ _ z, pI_sr_ne _ _ y, pI_sr_ne _ _ x]
  have k32 : ∀ a, a ≠ 37 → a ≠ 38 → a ≠ 51 → a ≠ 52 → a ≠ 56 → a ≠ 58 → a ≠ 59 → am_I g3 a = am_I g a := fun a x1 x2 x3 x4 x5 x6 x7 => by rw [k3 a x5 x6 x7, b2.2 a x1 x2 x4, k1 a x1 x2 x3]
  have g32 : g3.2 = g.2 := by rw [← hG3]; exact b2.1.trans f1.1
  have h9 : ∀ s, s < 6 → (bl s < 6 → s < bl s ∧ am_I g3 9 s = nI (bl s)) ∧ (¬ bl s < 6 → am_I g3 9 s = -1) := fun s hs => by
    rw [k32 9 (by decide) (by decide) (by decide) (by decide) (by decide) (by decide) (by decide), r_be (p := 2) hs, hr]
    exact ⟨(hF s hs).2.2.1, (hF s hs).2.2.2.1⟩
  have h51 : ∀ j, am_I g3 51 j = am_I (am_si (am_si (am_si g 51 13 (nI tg)) 51 14 (nI pl)) 51 12 (nI O)) 51 j := fun j => by rw [k3 51 (by decide) (by decide) (by decide), b2.2 51 (by decide) (by decide) (by decide), k51]
  obtain ⟨g4, c1, c2, c3⟩ := bgL148 (bl := bl) htg 6 am_fu g3 (by omega) (by omega) (by rw [h51, pe_ik (by decide), pe_ik (by decide), pe_ieq]) h9 (fun t h1 h2 => absurd h1 (by omega))
  refine ⟨g4, ?_, ⟨c2.1.trans g32, fun a x1 x2 x3 => by rw [c2.2 a (by omega), k32 a x1 x2 (by omega) (by omega) (by omega) (by omega) (by omega)]⟩, ?_, ?_, ?_, ?_, ?_⟩
  · unfold fX1_begin
    rw [pu_let, pu_let, e12, pu_let, o1, pu_bd]
    refine Eq.trans b1 ?_
    rw [show fJ7_fill_53178 zc_n 56 (0 : Int32) g2 = some ((), am_sr g2 56 (fun k => if k < 6 then nI 0 else am_I g2 56 k)) from hfl, pu_bd, pu_gd (show am_co (0 : Int32) (0 : Int32) (6 : Int32) 6 24 = true by decide), pu_let, pu_gd (show am_co (0 : Int32) (0 : Int32) (6 : Int32) 6 24 = true by decide), pu_let, show (0 : Int32).toNatClampNeg = 0 from rfl, show (6 : Int32).toNatClampNeg = 6 from rfl, cp_cpo, cp_cpo, hG3]
    exact c1
  · refine ⟨by rw [c2.2 51 (by decide), h51, pe_ieq], by rw [c2.2 51 (by decide), h51, pe_ik (by decide), pe_ieq], fun o ho => by rw [c2.2 52 (by decide), k3 52 (by decide) (by decide) (by decide)]; exact b4 o ho⟩
  · exact ⟨b3.1.gen (by rw [c2.1, g32]; exact (b2.1.trans f1.1).symm) (by rw [c2.2 1 (by decide), k3 1 (by decide) (by decide) (by decide)]) (fun a ha => by rw [c2.2 a (by omega), k3 a (by omega) (by omega) (by omega)]), by rw [← b3.2.1]; exact vr_cg fun a ha => by rw [c2.2 a (by omega), k3 a (by omega) (by omega) (by omega)], by rw [c2.2 37 (by decide), k3 37 (by decide) (by decide) (by decide)]; exact b3.2.2.1, by rw [c2.2 37 (by decide), k3 37 (by decide) (by decide) (by decide)]; exact b3.2.2.2⟩
  · refine ⟨by rw [c2.2 51 (by decide), h51, pe_ik (by decide), pe_ik (by decide), pe_ieq], fun s hs => ?_⟩
    obtain ⟨a1, a2, a3, a4, a5⟩ := hF s hs
    refine ⟨a1, ?_, fun z => ⟨(a3 z).1, ?_⟩, fun z => ?_, ?_, c3 s hs⟩
    · rw [c2.2 8 (by decide), k32 8 (by decide) (by decide) (by decide) (by decide) (by decide) (by decide) (by decide), r_ho (p := 2) hs, hr]; exact a2
    · rw [c2.2 9 (by decide)]; exact ((h9 s hs).1 z).2
    · rw [c2.2 9 (by decide)]; exact (h9 s hs).2 z
    · rw [c2.2 10 (by decide), k32 10 (by decide) (by decide) (by decide) (by decide) (by decide) (by decide) (by decide), r_go (p := 2) hs, hr]; exact a5
  · intro s hs
    refine ⟨0, ?_, Nat.le_refl _, fun i _ h2 => absurd h2 (by omega)⟩
    rw [c2.2 56 (by decide), ← hG3]
    unfold cpo
    rw [pI_sr_ne _ _ (by decide), pI_sr_ne _ _ (by decide), pI_sr_row, if_pos hs]
  · intro s hs
    obtain ⟨p1, p2, p3, p4⟩ := hP s hs
    have e3 : am_I g2 3 s = nI (X.1 s) := by rw [b2.2 3 (by decide) (by decide) (by decide), k1 3 (by decide) (by decide) (by decide), show am_I g 3 s = vr g 1 2 (10 + 10 * s + 0) from r_sn (p := 2) hs, hr]; exact p1
    have e4 : am_I g2 4 s = nI (X.2 s) := by rw [b2.2 4 (by decide) (by decide) (by decide), k1 4 (by decide) (by decide) (by decide), show am_I g 4 s = vr g 1 2 (10 + 10 * s + 8) from r_st (p := 2) hs, hr]; exact p3
    rw [c2.2 58 (by decide), c2.2 59 (by decide), Nat.mul_zero, Nat.zero_add, ← hG3]
    unfold cpo
    refine ⟨?_, p2, ?_, p4⟩
    · rw [pI_sr_ne _ _ (by decide), pI_sr_row, if_pos (by omega), pI_sr_ne _ _ (by decide), Nat.sub_zero]; exact e3
    · rw [pI_sr_row, if_pos (by omega), pI_sr_ne _ _ (by decide), pI_sr_ne _ _ (by decide), Nat.sub_zero]; exact e4
end BGN

/-! ===== bring: the reference ===== -/
theorem add_nI_ne {x : Int32} {k : Nat} (hk : k < 2147483648) : x + nI k = x ↔ k = 0 := by
  constructor
  · intro h
    have h1 : nI k = 0 := by
      have h2 : x + nI k - x = x - x := by rw [h]
      rw [Int32.sub_self] at h2
      rw [← h2, Int32.add_comm, Int32.add_sub_cancel]
    exact (nn_eq (b := 0) hk (by decide)).mp h1
  · intro h
    subst h
    exact Int32.add_zero _
section BRF
variable {q : Option pLw} {ρ0 : Row} {O pl tg nW : Nat} {op : Nat → Bool} {SH : Nat → Nat → Nat → Nat} {hd bl : Nat → Nat} {gg : Nat → Bool}
/-- a row that the reference has come to -/
def RwB (q : Option pLw) (ρ0 : Row) (hd bl : Nat → Nat) (gg : Nat → Bool) (B : Nat) (X : Xst) (ρ : Row) : Prop := okR B ρ ∧ AgB ρ0 ρ ∧ PrR B ρ X ∧ FxR hd bl gg ρ
theorem stepR {B o : Nat} {X : Xst} {ρ : Row} (hB : B + 999 ≤ 1500000000) (ho : o < 48) (hpl : pl < 4) (hSH : ShF q ρ0 pl SH) (h : RwB q ρ0 hd bl gg B X ρ) : ∃ k, k ≤ 59994 ∧ (sayP q ρ 0 (o / 3) pl (o % 3 + 1)).2 8 = ρ 8 + nI k ∧ (stepX SH hd bl gg o X = none → 0 < k) ∧ ∀ X' sl, stepX SH hd bl gg o X = some (X', sl) → k = 0 ∧ RwB q ρ0 hd bl gg (B + 999) X' (sayP q ρ 0 (o / 3) pl (o % 3 + 1)).2 ∧ ∀ t, t < 6 → (sayP q ρ 0 (o / 3) pl (o % 3 + 1)).2 (10 + 10 * t + 9) = if sl t = true then ρ (10 + 10 * t + 9) + nI 1 else ρ (10 + 10 * t + 9) := by
  obtain ⟨h1, h2, h3, h4⟩ := h
  have hw : o / 3 < 16 := by omega
  have hV := h1.ov
  have hsh : ∀ s, s < 6 → shk q ρ (o / 3) pl (o % 3 + 1) s = nI (SH o s (X.1 s)) := fun s hs => by
    obtain ⟨p1, p2, p3, p4⟩ := h3 s hs
    rw [← hSH.2 o ho s hs (X.1 s) p2]
    refine shk_c6 ?_ ?_ ?_ ?_ ?_ ?_
    · rw [am_up_ne (by omega), h2 _ (by omega)]
    · rw [am_up_ne (by omega), h2 _ (by omega)]
    · rw [am_up_ne (by omega), h2 _ (by omega)]
    · rw [am_up_eq]; exact p1
    · rw [am_up_ne (by omega), h2 _ (by omega)]
    · rw [am_up_ne (by omega), h2 _ (by omega)]
  have aP := agb_prs ρ (shk q ρ (o / 3) pl (o % 3 + 1))
  have hP1 : PrR (B + 999) (prs ρ 0 (shk q ρ (o / 3) pl (o % 3 + 1)) 6) (prsX SH o X) := fun s hs => by
    obtain ⟨p1, p2, p3, p4⟩ := h3 s hs
    have := hSH.1 o s (X.1 s)
    refine ⟨by rw [prs_un ρ 0 _ 6 (fun t ht => by omega)]; exact p1, p2, ?_, ?_⟩
    · rw [prs_st ρ (by decide) _ 6 (Nat.le_refl _) hs, p3, hsh s hs, nI_add]
      rfl
    · show X.2 s + SH o s (X.1 s) ≤ B + 999
      omega
  have hV1 : okV (prs ρ 0 (shk q ρ (o / 3) pl (o % 3 + 1)) 6) := hV.cg (prs_ag ρ (by decide) _ 6 (Nat.le_refl _))
  obtain ⟨k, k1, k2, k3, k4⟩ := passX (hd := hd) (bl := bl) (gg := gg) hB 6 0 _ _ (fun _ => false) rfl hV1 (h4.ag aP) hP1 (fun _ _ _ => rfl)
  have e8 : prs ρ 0 (shk q ρ (o / 3) pl (o % 3 + 1)) 6 8 = ρ 8 := prs_un ρ 0 _ 6 (fun t ht => by omega)
  refine ⟨k, by omega, by rw [← e8]; exact k2, k3, fun X' sl hs => ?_⟩
  obtain ⟨m1, m2, -, m4⟩ := k4 X' sl hs
  have aU := agb_sldU 6 0 _ rfl hV1
  refine ⟨m1, ⟨sayP_ok h1 (by omega) (by decide) hw hpl (by omega), h2.tr (aP.tr aU), m2, (h4.ag aP).ag aU⟩, fun t ht => ?_⟩
  have e9 : prs ρ 0 (shk q ρ (o / 3) pl (o % 3 + 1)) 6 (10 + 10 * t + 9) = ρ (10 + 10 * t + 9) := prs_un ρ 0 _ 6 (fun t ht => by omega)
  have := m4 t ht
  rw [e9] at this
  refine Eq.trans this ?_
  by_cases z : sl t = true
  · rw [if_pos ⟨Nat.zero_le _, z⟩, if_pos z]
  · rw [if_neg (fun y => z y.2), if_neg z]
/-- one option tried -/
theorem q12_bringBy {B o : Nat} {X : Xst} {g : am_G} (hB : B + 999 ≤ 1500000000) (hO : O ≤ 48) (ho : o < O) (hpl : pl < 4) (htg : tg < 6) (hSH : ShF q ρ0 pl SH) (hop : ∀ o, o < O → op o = !brd q ρ0 (o / 3) pl (o % 3 + 1)) (hq : LawR (am_I g 2) q) (h20 : am_I g 0 20 = nI 0) (h : RwB q ρ0 hd bl gg B X (rr g)) : ∃ g', FrW g g' ∧ ((op o = true ∧ ∃ X' sl, stepX SH hd bl gg o X = some (X', sl) ∧ fX12_bringBy (nI tg) (nI pl) (nI o) g = some (nI (if sl tg = true then 1 else 0), g') ∧ RwB q ρ0 hd bl gg (B + 999) X' (rr g')) ∨ ((op o = false ∨ stepX SH hd bl gg o X = none) ∧ fX12_bringBy (nI tg) (nI pl) (nI o) g = some (-1, g'))) := by
  have hw : o / 3 < 16 := by omega
  have e3 : nI o / (3 : Int32) = nI (o / 3) := pdv (d := 3) (by omega) (by decide) (by decide)
  have e3' : nI o - nI (o / 3) * (3 : Int32) + (1 : Int32) = nI (o % 3 + 1) := by
    have := md_N (X := o) (N := 3) (by omega) (by decide) (by decide)
    rw [show nI 3 = (3 : Int32) from rfl, e3] at this
    rw [this]
    exact nI_add _ 1
  have hV := h.1.ov
  have hAg : ∀ j, j < 259 → ¬ (j = 8 ∨ j = 9 ∨ (10 ≤ j ∧ j < 70 ∧ ((j - 10) % 10 = 0 ∨ 8 ≤ (j - 10) % 10)) ∨ (70 ≤ j ∧ j < 142)) → am_I g 2 j = ρ0 j := fun j hj hn => by rw [← rr_at hj]; exact h.2.1 j hn
  obtain ⟨g1, b1, f1⟩ := q12_isBarred (g := g) (w := o / 3) (p := pl) (l := o % 3 + 1) hq h20 hw
  rw [brd_c4 (ρ' := ρ0) (hAg _ (by omega) (by omega)) (hAg _ (by omega) (by omega)) (hAg _ (by omega) (by omega)) (hAg _ (by omega) (by omega))] at b1
  have hov := hop o ho
  unfold fX12_bringBy
  rw [e3, pu_let, e3', pu_let, b1, pu_bd]
  by_cases hb : brd q ρ0 (o / 3) pl (o % 3 + 1) = true
  · rw [pb_t hb, if_neg (show ¬ nI 1 = (0 : Int32) by decide)]
    exact ⟨g1, f1.W, Or.inr ⟨Or.inl (by rw [hov, hb]; rfl), rfl⟩⟩
  · rw [pb_f hb, if_pos (show nI 0 = (0 : Int32) from rfl), pu_gd (show am_in (8 : Int32) 5660 = true from rfl), show (8 : Int32).toNatClampNeg = 8 from rfl, pu_let, show (9 : Int32) = nI 9 from rfl, s12_ofSlope htg (by decide), pu_bd]
    have r1 : rr g1 = rr g := rr_cg (f1.row (by decide))
    obtain ⟨g2, s1, s2, f2⟩ := q12_sayIt (g := g1) (ρ := rr g) (i := 0) (w := o / 3) (pl := pl) (l := o % 3 + 1) (by decide) hw hpl (by omega) (hq.fw f1.W) (by rw [f1.at (by omega)]; exact h20) r1 hV
    rw [show fX12_sayIt (0 : Int32) (nI (o / 3)) (nI pl) (nI (o % 3 + 1)) g1 = some (nI (sayP q (rr g) 0 (o / 3) pl (o % 3 + 1)).1, g2) from s1, pu_bd, pu_gd (show am_in (8 : Int32) 5660 = true from rfl)]
    obtain ⟨k, k1, k2, k3, k4⟩ := stepR (o := o) hB (by omega) hpl hSH h
    have e8 : am_I g2 2 8 = am_I g1 2 8 + nI k := by rw [← rr_at (by decide), s2, k2, f1.row (by decide), ← rr_at (show 8 < 259 by decide)]
    have f12 := f1.W.tr f2
    rw [e8]
    cases hs : stepX SH hd bl gg o X with
    | none =>
      have hk := k3 hs
      rw [if_neg (fun z => absurd ((add_nI_ne (by omega)).mp z) (by omega))]
      exact ⟨g2, f12, Or.inr ⟨Or.inr rfl, rfl⟩⟩
    | some z =>
      obtain ⟨X', sl⟩ := z
      obtain ⟨m1, m2, m3⟩ := k4 X' sl hs
      rw [if_pos ((add_nI_ne (by omega)).mpr m1), s12_ofSlope htg (by decide), pu_bd]
      have h9 := (h.1 (10 + 10 * tg + 9) (by omega)).1 (by unfold stp; omega)
      have ev : am_I g2 2 (10 + 10 * tg + 9) = if sl tg = true then rr g (10 + 10 * tg + 9) + nI 1 else rr g (10 + 10 * tg + 9) := by rw [← rr_at (by omega), s2]; exact m3 tg htg
      have ev1 : am_I g1 2 (10 + 10 * tg + 9) = rr g (10 + 10 * tg + 9) := by rw [f1.row (by decide), rr_at (by omega)]
      rw [ev, ev1]
      refine ⟨g2, f12, Or.inl ⟨by rw [hov, Bool.eq_false_iff.mpr hb]; rfl, X', sl, rfl, ?_, by rw [s2]; exact m2⟩⟩
      by_cases hz : sl tg = true
      · have hi : (rr g (10 + 10 * tg + 9) + nI 1).toInt = (rr g (10 + 10 * tg + 9)).toInt + 1 := by
          have : (nI 1).toInt = 1 := rfl
          rw [Int32.toInt_add, this]
          exact Int.bmod_eq_of_le (by omega) (by omega)
        rw [if_pos hz, if_pos hz, if_neg (fun z => by
          have := Int32.le_iff_toInt_le.mp z
          rw [hi] at this
          omega)]
        rfl
      · rw [if_neg hz, if_neg hz, if_pos Int32.le_rfl]
        rfl
/-! one row of options after the other -/
def FBk (k : Nat) (g g' : am_G) : Prop := (∀ a j, a ≠ 21 → a ≠ 22 → ¬ (a = 0 ∧ (j = 34 ∨ j = 38)) → ¬ (a = 2 ∧ 6 ≤ j ∧ j < 142) → ¬ (a = 5 ∧ 136 * (17 + k) ≤ j ∧ j < 2856) → ¬ (a = 29 ∧ k ≤ j) → am_I g' a j = am_I g a j) ∧ (∀ a j, a ≠ 20 → a ≠ 18 → ¬ (a = 0 ∧ (j = 39 ∨ j = 40)) → am_L g' a j = am_L g a j) ∧ g'.2.2 = g.2.2
theorem FBk.rf (k : Nat) (g : am_G) : FBk k g g := ⟨fun _ _ _ _ _ _ _ _ => rfl, fun _ _ _ _ _ => rfl, rfl⟩
theorem FBk.tr {k : Nat} {g h i : am_G} (h1 : FBk k g h) (h2 : FBk k h i) : FBk k g i := ⟨fun a j x1 x2 x3 x4 x5 x6 => (h2.1 a j x1 x2 x3 x4 x5 x6).trans (h1.1 a j x1 x2 x3 x4 x5 x6), fun a j x y z => (h2.2.1 a j x y z).trans (h1.2.1 a j x y z), h2.2.2.trans h1.2.2⟩
theorem FBk.mo {k : Nat} {g h : am_G} (h1 : FBk (k + 1) g h) : FBk k g h := ⟨fun a j x1 x2 x3 x4 x5 x6 => h1.1 a j x1 x2 x3 x4 (by omega) (by omega), h1.2.1, h1.2.2⟩
theorem FrW.K {k : Nat} {g h : am_G} (f : FrW g h) : FBk k g h := ⟨fun a j x1 x2 x3 x4 _ _ => f.1 a j x1 x2 x3 (fun z => x4 ⟨z.1, by have := z.2; unfold pkj at this; omega⟩), f.2.1, f.2.2⟩
theorem FBk.s29 {k : Nat} {g h : am_G} (f : FBk k g h) {j : Nat} (hj : k ≤ j) (x : Int32) : FBk k g (am_si h 29 j x) := ⟨fun a i x1 x2 x3 x4 x5 x6 => by rw [pI_si, if_neg (fun z => x6 ⟨z.1, by omega⟩)]; exact f.1 a i x1 x2 x3 x4 x5 x6, f.2.1, f.2.2⟩
/-- put back -/
def pbk (n : Nat) (g : am_G) : am_G := am_sr g 2 (fun j => if 6 ≤ j ∧ j < 142 then am_I g 5 (136 * n + (j - 6)) else am_I g 2 j)
theorem pbk_K {k n : Nat} (g : am_G) : FBk k g (pbk n g) := ⟨fun a j _ _ _ x4 _ _ => by
  unfold pbk
  by_cases e : a = 2
  · subst e; rw [pI_sr_row, if_neg (fun z => x4 ⟨rfl, z⟩)]
  · rw [pI_sr_ne _ _ e], fun _ _ _ _ _ => rfl, rfl⟩
def chR (g : am_G) : Nat → List Nat → Prop
  | _, [] => True
  | v, o :: l => am_I g 29 v = nI o ∧ chR g (v + 1) l
end BRF

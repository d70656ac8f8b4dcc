/-! ===== saying: both get ready ===== -/
def FP (g g' : am_G) : Prop := g'.2 = g.2 ∧ ∀ a, a ≠ 37 → a ≠ 38 → a ≠ 40 → a ≠ 41 → am_I g' a = am_I g a
theorem FP.tr {g h i : am_G} (h1 : FP g h) (h2 : FP h i) : FP g i := ⟨h2.1.trans h1.1, fun a x y z w => (h2.2 a x y z w).trans (h1.2 a x y z w)⟩
theorem FP.law {g h : am_G} {q : Option pLw} (f : FP g h) (hq : LawC g q) : LawC h q := hq.gen f.1 (f.2 1 (by decide) (by decide) (by decide) (by decide)) (fun a ha => f.2 a (by omega) (by omega) (by omega) (by omega))
theorem FP.vr {g h : am_G} {ρ : Row} (f : FP g h) (hr : vr g 1 2 = ρ) : vr h 1 2 = ρ := by
  rw [← hr]
  exact vr_cg fun a ha => f.2 a (by omega) (by omega) (by omega) (by omega)
theorem SaidC.cg {g h : am_G} {ρ : Nat → Int32} {w p l : Nat} (hS : SaidC g ρ w p l) (e : am_I h 37 = am_I g 37) : SaidC h ρ w p l := by
  unfold SaidC at hS ⊢
  rw [e]
  exact hS
theorem prL113 {a1 a2 : Int32} {q : Option pLw} {ρ : Row} {w pl l : Nat} (hw : w < 16) (hp : pl < 4) (hl : l ≤ 3) (hV : okV ρ) : ∀ (d s m : Nat) (g : am_G), s + d = 6 → d < m → LawC g q → vr g 1 2 = ρ → SaidC g ρ w pl l → ∃ g', (∀ k, fX3_prepare_L113 k a1 a2 (nI w) m (nI s) g = k g') ∧ FP g g' ∧ SaidC g' ρ w pl l ∧ am_I g' 40 = am_I g 40 ∧ (∀ t, s ≤ t → t < 6 → am_I g' 41 (6 * w + t) = shk q ρ w pl l t) ∧ (∀ j, j < 6 * w + s → am_I g' 41 j = am_I g 41 j)
  | 0, s, m, g, hd, hm, hq, hr, hS => by
    obtain ⟨m, rfl⟩ : ∃ m', m = m' + 1 := ⟨m - 1, by omega⟩
    obtain rfl : s = 6 := by omega
    refine ⟨g, fun k => ?_, ⟨rfl, fun _ _ _ _ _ => rfl⟩, hS, rfl, fun t h1 h2 => absurd h1 (by omega), fun _ _ => rfl⟩
    rw [fX3_prepare_L113, if_pos (show (6 : Int32) ≤ nI 6 by decide)]
  | d + 1, s, m, g, hd, hm, hq, hr, hS => by
    obtain ⟨m, rfl⟩ : ∃ m', m = m' + 1 := ⟨m - 1, by omega⟩
    have hs6 : s < 6 := by omega
    have es : am_I g 3 s = ρ (10 + 10 * s + 0) := by rw [← hr]; exact r_sn (p := 2) hs6
    obtain ⟨g1, e1, f1, S1⟩ := q0_shakes (s := s) hq hV hw hp hl hs6 hS (by rw [r_fa (p := 2) hs6 hp, hr])
    have f2 : FP g (am_si g1 41 (6 * w + s) (shk q ρ w pl l s)) := ⟨f1.1, fun a x y _ w' => by rw [pI_si_ne _ _ _ w']; exact f1.2 a x y⟩
    obtain ⟨g', a1', a2', a3', a4', a5', a6'⟩ := prL113 (a1 := a1) (a2 := a2) hw hp hl hV d (s + 1) m (am_si g1 41 (6 * w + s) (shk q ρ w pl l s)) (by omega) (by omega) (f2.law hq) (f2.vr hr) (S1.cg (pI_si_ne _ _ _ (by decide)))
    refine ⟨g', fun k => ?_, f2.tr a2', a3', by rw [a4', pI_si_ne _ _ _ (by decide), f1.2 40 (by decide) (by decide)], fun t h1 h2 => ?_, fun j hj => ?_⟩
    · rw [fX3_prepare_L113, if_neg (show ¬ (6 : Int32) ≤ nI s from fun z => absurd ((nI_leI (a := 6) (by decide) (by omega)).mp z) (by omega)), pe_gd (show s < 6 from hs6) (by decide), pe_clamp (show s < 2147483648 by omega), es, e1, pu_bd, i6, pe_gd (show 6 * w + s < 96 by omega) (by decide), pu_let, pu_let, pe_clamp (show 6 * w + s < 2147483648 by omega), show nI s + (1 : Int32) = nI (s + 1) from nI_add s 1]
      exact a1' k
    · by_cases e : t = s
      · subst e; rw [a6' _ (by omega), pe_ieq]
      · exact a5' t (by omega) h2
    · rw [a6' j (by omega), pe_ik (by omega), f1.2 41 (by decide) (by decide)]
theorem prL65 {q : Option pLw} {ρ : Row} {nW pl l : Nat} (hW : nW ≤ 16) (hp : pl < 4) (hl : l ≤ 3) (hV : okV ρ) : ∀ (d w m : Nat) (g : am_G), w + d = nW → d < m → am_I g 12 4 = nI nW → LawC g q → vr g 1 2 = ρ → am_I g 37 20 = ρ 7 → am_I g 37 22 = ρ 6 → (∀ i, i < w → am_I g 40 i = (if brd q ρ i pl l = true then nI 0 else nI 1) ∧ ∀ t, t < 6 → am_I g 41 (6 * i + t) = shk q ρ i pl l t) → ∃ g', fX3_prepare_L65 (nI pl) (nI l) m (nI w) g = some ((), g') ∧ FP g g' ∧ ∀ i, i < nW → am_I g' 40 i = (if brd q ρ i pl l = true then nI 0 else nI 1) ∧ ∀ t, t < 6 → am_I g' 41 (6 * i + t) = shk q ρ i pl l t
  | 0, w, m, g, hd, hm, h12, hq, hr, h20, h22, hi => by
    obtain ⟨m, rfl⟩ : ∃ m', m = m' + 1 := ⟨m - 1, by omega⟩
    obtain rfl : w = nW := by omega
    refine ⟨g, ?_, ⟨rfl, fun _ _ _ _ _ => rfl⟩, hi⟩
    rw [fX3_prepare_L65, h12, if_pos Int32.le_rfl]
  | d + 1, w, m, g, hd, hm, h12, hq, hr, h20, h22, hi => by
    obtain ⟨m, rfl⟩ : ∃ m', m = m' + 1 := ⟨m - 1, by omega⟩
    have hw : w < 16 := by omega
    have hfu : am_fu = 1048576 := rfl
    obtain ⟨g1, e1, f1, S1⟩ := q0_ofSaid (g := g) (ρ := ρ) hw pl l (by rw [(vr_wd (p := 2) hw).1, hr]) (by rw [(vr_wd (p := 2) hw).2, hr]) h20 h22
    obtain ⟨g2, e2, f2, S2⟩ := q0_bars (hq.fc f1) hV hw hp hl S1
    have f12 := f1.tr f2
    have zb : am_zb (if brd q ρ w pl l = true then nI 0 else nI 1) = true := by
      by_cases hb : brd q ρ w pl l = true
      · rw [if_pos hb]; rfl
      · rw [if_neg hb]; rfl
    have f3 : FP g (am_si g2 40 w (if brd q ρ w pl l = true then nI 0 else nI 1)) := ⟨f12.1, fun a x y z _ => by rw [pI_si_ne _ _ _ z]; exact f12.2 a x y⟩
    obtain ⟨g4, b1, b2, b3, b4, b5, b6⟩ := prL113 (a1 := nI pl) (a2 := nI l) (q := q) hw hp hl hV 6 0 am_fu (am_si g2 40 w (if brd q ρ w pl l = true then nI 0 else nI 1)) (by omega) (by omega) (f3.law hq) (f3.vr hr) (S2.cg (pI_si_ne _ _ _ (by decide)))
    have f4 := f3.tr b2
    obtain ⟨g', c1, c2, c3⟩ := prL65 (q := q) hW hp hl hV d (w + 1) m g4 (by omega) (by omega) (by rw [f4.2 12 (by decide) (by decide) (by decide) (by decide)]; exact h12) (f4.law hq) (f4.vr hr) b3.2.2.2.2.2.1 b3.2.2.2.2.2.2 (fun i hi' => by
      rw [b4]
      by_cases e : i = w
      · subst e
        exact ⟨pe_ieq _ _ _ _, fun t ht => b5 t (by omega) ht⟩
      · obtain ⟨x1, x2⟩ := hi i (by omega)
        refine ⟨by rw [pe_ik e, f12.2 40 (by decide) (by decide)]; exact x1, fun t ht => ?_⟩
        rw [b6 _ (by omega), pe_ine (by decide), f12.2 41 (by decide) (by decide)]
        exact x2 t ht)
    refine ⟨g', ?_, f4.tr c2, c3⟩
    rw [fX3_prepare_L65, h12, if_neg (fun z => absurd ((nI_leI (by omega) (by omega)).mp z) (by omega)), e1, pu_bd, e2, pu_bd, pu_jn]
    dsimp only
    have fin : ∀ x : Int32, x = (if brd q ρ w pl l = true then nI 0 else nI 1) → (am_gd (am_in (nI w) 16) <| am_gd (am_zb x) <| am_let (am_si g2 40 (nI w).toNatClampNeg x) fun g32 => fX3_prepare_L113 (fun  (g44 : am_G) => am_let (nI w + (1 : Int32)) fun x45 => fX3_prepare_L65 (nI pl) (nI l) m x45 g44) (nI pl) (nI l) (nI w) am_fu (0 : Int32) g32) = some ((), g') := by
      intro x hx
      rw [hx, pe_gd (show w < 16 from hw) (by decide), pu_gd zb, pu_let, pe_clamp (show w < 2147483648 by omega)]
      refine (b1 _).trans ?_
      rw [pu_let, show nI w + (1 : Int32) = nI (w + 1) from nI_add w 1]
      exact c1
    by_cases hb : brd q ρ w pl l = true
    · rw [pb_t hb, if_neg (show ¬ nI 1 = (0 : Int32) by decide)]
      exact fin 0 (by rw [if_pos hb]; rfl)
    · rw [pb_f hb, if_pos (show nI 0 = (0 : Int32) from rfl)]
      exact fin 1 (by rw [if_neg hb]; rfl)
def rmV (ρ : Row) (s : Nat) : Int32 := if ρ (10 + 10 * s + 0) = nI 0 then 1000000000 else ρ (10 + 10 * s + 1) - ρ (10 + 10 * s + 0) - ρ (10 + 10 * s + 8)
theorem q9_roomOn {g : am_G} {p s : Nat} {ρ : Row} (hP : PkS g p) (hs : s < 6) (hr : vr g 1 p = ρ) : fX9_roomOn (nI s) p g = some (rmV ρ s, g) := by
  obtain ⟨h0, h1, h2, h3, h4, h5, s1, s2, s3, s4, s5⟩ := hP
  have e1 : am_I g (p + 1) s = ρ (10 + 10 * s + 0) := by rw [← hr]; exact r_sn hs
  have e2 : am_I g (p + 2) s = ρ (10 + 10 * s + 8) := by rw [← hr]; exact r_st hs
  have e3 : am_I g 8 s = ρ (10 + 10 * s + 1) := by rw [← hr]; exact r_ho hs
  unfold fX9_roomOn rmV
  rw [pu_gd (decide_eq_true h0), h1, pu_ocs, s1, pu_gd (show decide ((20, 6).1 = 20) = true from rfl), pe_gd (show s < 6 from hs) (by decide), pu_let, pe_clamp (show s < 2147483648 by omega), e1]
  by_cases hz : ρ (10 + 10 * s + 0) = nI 0
  · rw [if_pos (show ρ (10 + 10 * s + 0) = 0 from hz), if_pos hz]
  · rw [if_neg (show ¬ ρ (10 + 10 * s + 0) = 0 from hz), if_neg hz, pe_gd (show s < 6 from hs) (by decide), pu_gd (decide_eq_true h0), h2, pu_ocs, s2, pu_gd (show decide ((20, 6).1 = 20) = true from rfl), pe_gd (show s < 6 from hs) (by decide), e2, e3]
theorem prL30 {a1 a2 : Int32} {ρ : Row} : ∀ (d s m : Nat) (g : am_G), s + d = 6 → d < m → PkS g 2 → vr g 1 2 = ρ → ∃ g', (∀ k, fX3_prepare_L30 k a1 a2 m (nI s) g = k g') ∧ (g'.2 = g.2 ∧ ∀ a, a ≠ 42 → am_I g' a = am_I g a) ∧ (∀ t, s ≤ t → t < 6 → am_I g' 42 t = rmV ρ t) ∧ ∀ t, t < s → am_I g' 42 t = am_I g 42 t
  | 0, s, m, g, hd, hm, hP, hr => by
    obtain ⟨m, rfl⟩ : ∃ m', m = m' + 1 := ⟨m - 1, by omega⟩
    obtain rfl : s = 6 := by omega
    refine ⟨g, fun k => ?_, ⟨rfl, fun _ _ => rfl⟩, fun t h1 h2 => absurd h1 (by omega), fun _ _ => rfl⟩
    rw [fX3_prepare_L30, if_pos (show (6 : Int32) ≤ nI 6 by decide)]
  | d + 1, s, m, g, hd, hm, hP, hr => by
    obtain ⟨m, rfl⟩ : ∃ m', m = m' + 1 := ⟨m - 1, by omega⟩
    have hs6 : s < 6 := by omega
    have hr' : vr (am_si g 42 s (rmV ρ s)) 1 2 = ρ := by
      rw [← hr]
      exact vr_cg fun a ha => pI_si_ne _ _ _ (by omega)
    obtain ⟨g', b1, b2, b3, b4⟩ := prL30 (a1 := a1) (a2 := a2) d (s + 1) m (am_si g 42 s (rmV ρ s)) (by omega) (by omega) (hP.eq rfl) hr'
    refine ⟨g', fun k => ?_, ⟨b2.1, fun a ha => by rw [b2.2 a ha, pI_si_ne _ _ _ ha]⟩, fun t h1 h2 => ?_, fun t ht => ?_⟩
    · rw [fX3_prepare_L30, if_neg (show ¬ (6 : Int32) ≤ nI s from fun z => absurd ((nI_leI (a := 6) (by decide) (by omega)).mp z) (by omega)), q9_roomOn hP hs6 hr, pu_bd, pe_gd (show s < 36 by omega) (by decide), pu_let, pu_let, pe_clamp (show s < 2147483648 by omega), show nI s + (1 : Int32) = nI (s + 1) from nI_add s 1]
      exact b1 k
    · by_cases e : t = s
      · subst e; rw [b4 t (by omega), pe_ieq]
      · exact b3 t (by omega) h2
    · rw [b4 t (by omega), pe_ik (by omega)]
theorem q3_prepare {q : Option pLw} {ρ : Row} {nW pl l : Nat} {g : am_G} (hW : nW ≤ 16) (hp : pl < 4) (hl : l ≤ 3) (hV : okV ρ) (h12 : am_I g 12 4 = nI nW) (hq : LawC g q) (hr : vr g 1 2 = ρ) (hP : PkS g 2) : ∃ g', fX3_prepare (nI pl) (nI l) g = some ((), g') ∧ (g'.2 = g.2 ∧ ∀ a, a ≠ 37 → a ≠ 38 → a ≠ 39 → a ≠ 40 → a ≠ 41 → a ≠ 42 → am_I g' a = am_I g a) ∧ am_I g' 39 7 = nI 1000000000 ∧ am_I g' 39 8 = nI 0 ∧ (∀ t, t < 6 → am_I g' 42 t = rmV ρ t) ∧ ∀ i, i < nW → am_I g' 40 i = (if brd q ρ i pl l = true then nI 0 else nI 1) ∧ ∀ t, t < 6 → am_I g' 41 (6 * i + t) = shk q ρ i pl l t := by
  have hfu : am_fu = 1048576 := rfl
  obtain ⟨g1, e1, f1, d1, d2, d3⟩ := q0_onDay (am_I (am_si (am_si g 39 7 (1000000000 : Int32)) 39 8 (0 : Int32)) 2 5) (am_si (am_si g 39 7 (1000000000 : Int32)) 39 8 (0 : Int32))
  have k1 : ∀ a, a ≠ 37 → a ≠ 38 → a ≠ 39 → am_I g1 a = am_I g a := fun a h1 h2 h3 => by rw [f1.2 a h1 h2, pI_si_ne _ _ _ h3, pI_si_ne _ _ _ h3]
  have r1 : vr g1 1 2 = ρ := by
    rw [← hr]
    exact vr_cg fun a ha => k1 a (by omega) (by omega) (by omega)
  have P1 : PkS g1 2 := hP.eq f1.1
  obtain ⟨g2, b1, b2, b3, b4⟩ := prL30 (a1 := nI pl) (a2 := nI l) (ρ := ρ) 6 0 am_fu g1 (by omega) (by omega) P1 r1
  have k2 : ∀ a, a ≠ 37 → a ≠ 38 → a ≠ 39 → a ≠ 42 → am_I g2 a = am_I g a := fun a h1 h2 h3 h4 => by rw [b2.2 a h4, k1 a h1 h2 h3]
  have r2 : vr g2 1 2 = ρ := by
    rw [← hr]
    exact vr_cg fun a ha => k2 a (by omega) (by omega) (by omega) (by omega)
  have g12 : g2.2 = g.2 := b2.1.trans f1.1
  obtain ⟨g3, c1, c2, c3⟩ := prL65 (q := q) (ρ := ρ) hW hp hl hV nW 0 am_fu g2 (by omega) (by omega) (by rw [k2 12 (by decide) (by decide) (by decide) (by decide)]; exact h12) (hq.gen g12 (k2 1 (by decide) (by decide) (by decide) (by decide)) (fun a ha => k2 a (by omega) (by omega) (by omega) (by omega))) r2 (by rw [b2.2 37 (by decide), d2, pe_ine (by decide), pe_ine (by decide), r_mo (p := 2), hr]) (by rw [b2.2 37 (by decide), d1, pe_ine (by decide), pe_ine (by decide), show am_I g 2 5 = vr g 1 2 6 from r_da, hr]) (fun i hi => absurd hi (by omega))
  refine ⟨g3, ?_, ⟨c2.1.trans g12, fun a h1 h2 h3 h4 h5 h6 => by rw [c2.2 a h1 h2 h4 h5, k2 a h1 h2 h3 h6]⟩, ?_, ?_, fun t ht => ?_, c3⟩
  · unfold fX3_prepare
    rw [pu_let, pu_let, e1, pu_bd]
    refine (b1 _).trans ?_
    exact c1
  · rw [c2.2 39 (by decide) (by decide) (by decide) (by decide), b2.2 39 (by decide), f1.2 39 (by decide) (by decide), pe_ik (by decide), pe_ieq]; rfl
  · rw [c2.2 39 (by decide) (by decide) (by decide) (by decide), b2.2 39 (by decide), f1.2 39 (by decide) (by decide), pe_ieq]; rfl
  · rw [c2.2 42 (by decide) (by decide) (by decide) (by decide)]
    exact b3 t (by omega) ht
/-! the reference -/
def FQ2 (g g' : am_G) : Prop := (∀ a k, a ≠ 23 → a ≠ 24 → ¬ (a = 0 ∧ (k = 34 ∨ k = 38)) → am_I g' a k = am_I g a k) ∧ (∀ a k, a ≠ 20 → a ≠ 18 → ¬ (a = 0 ∧ (k = 39 ∨ k = 40)) → am_L g' a k = am_L g a k) ∧ g'.2.2 = g.2.2
theorem FQ2.tr {g h i : am_G} (h1 : FQ2 g h) (h2 : FQ2 h i) : FQ2 g i := ⟨fun a k x y z => (h2.1 a k x y z).trans (h1.1 a k x y z), fun a k z w x => (h2.2.1 a k z w x).trans (h1.2.1 a k z w x), h2.2.2.trans h1.2.2⟩
theorem FrS.Q2 {g h : am_G} (h1 : FrS g h) : FQ2 g h := ⟨fun a k _ _ z => h1.1 a k z, h1.2.1, h1.2.2⟩
theorem FQ2.si {g h : am_G} (h1 : FQ2 g h) {a : Nat} (ha : a = 23 ∨ a = 24) (k : Nat) (x : Int32) : FQ2 g (am_si h a k x) := ⟨fun c j y z w => by rw [pI_si_ne _ _ _ (show c ≠ a by omega)]; exact h1.1 c j y z w, h1.2.1, h1.2.2⟩
theorem FQ2.r2 {g h : am_G} (h1 : FQ2 g h) : am_I h 2 = am_I g 2 := funext fun k => h1.1 2 k (by decide) (by decide) (by omega)
theorem FQ2.T {g h : am_G} (h1 : FQ2 g h) : FrT g h := ⟨fun a k x => h1.1 a k (fun z => x (by unfold scR; omega)) (fun z => x (by unfold scR; omega)) (fun z => x (by unfold scR sc0; omega)), fun a x y z w => funext fun k => h1.2.1 a k w y (by omega), h1.2.2⟩
theorem fnL47 {x2 : Int32} {q : Option pLw} {ρ : Row} {w pl l : Nat} (hw : w < 16) (hp : pl < 4) (hl : l ≤ 3) (hV : okV ρ) : ∀ (d s m : Nat) (g : am_G), s + d = 6 → d < m → LawR (am_I g 2) q → am_I g 0 20 = nI 0 → rr g = ρ → ∃ g', (∀ k, fX12_findSaying_L47 k (nI pl) (nI l) x2 (nI w) m (nI s) g = k g') ∧ FQ2 g g' ∧ am_I g' 24 = am_I g 24 ∧ (∀ t, s ≤ t → t < 6 → am_I g' 23 (6 * w + t) = shk q ρ w pl l t) ∧ (∀ j, j < 6 * w + s → am_I g' 23 j = am_I g 23 j)
  | 0, s, m, g, hd, hm, hq, h20, hr => by
    obtain ⟨m, rfl⟩ : ∃ m', m = m' + 1 := ⟨m - 1, by omega⟩
    obtain rfl : s = 6 := by omega
    refine ⟨g, fun k => ?_, (FrS.rf g).Q2, rfl, fun t h1 h2 => absurd h1 (by omega), fun _ _ => rfl⟩
    rw [fX12_findSaying_L47, if_pos (show (6 : Int32) ≤ nI 6 by decide)]
  | d + 1, s, m, g, hd, hm, hq, h20, hr => by
    obtain ⟨m, rfl⟩ : ∃ m', m = m' + 1 := ⟨m - 1, by omega⟩
    have hs6 : s < 6 := by omega
    obtain ⟨g1, e1, f1⟩ := q12_shakesOf (g := g) (q := q) (p := pl) (l := l) hq h20 (okV_rr hr hV) hw hp hl hs6
    rw [shk_cg (ag_rr hr) l hw hp hs6] at e1
    have f2 : FQ2 g (am_si g1 23 (6 * w + s) (shk q ρ w pl l s)) := f1.Q2.si (Or.inl rfl) _ _
    obtain ⟨g', a1', a2', a3', a4', a5'⟩ := fnL47 (x2 := x2) (q := q) hw hp hl hV d (s + 1) m (am_si g1 23 (6 * w + s) (shk q ρ w pl l s)) (by omega) (by omega) (by rw [f2.r2]; exact hq) (by rw [f2.1 0 20 (by decide) (by decide) (by omega)]; exact h20) (by rw [rr_cg f2.r2]; exact hr)
    have e6 : (6 : Int32) * nI w + nI s = nI (6 * w + s) := by rw [show (6 : Int32) = nI 6 from rfl, nn_mul, nI_add]
    refine ⟨g', fun k => ?_, f2.tr a2', by rw [a3', pI_si_ne _ _ _ (by decide)]; exact f1.row (by decide), fun t h1 h2 => ?_, fun j hj => ?_⟩
    · rw [fX12_findSaying_L47, if_neg (show ¬ (6 : Int32) ≤ nI s from fun z => absurd ((nI_leI (a := 6) (by decide) (by omega)).mp z) (by omega)), e1, pu_bd, e6, pe_gd (show 6 * w + s < 96 by omega) (by decide), pu_let, pu_let, pe_clamp (show 6 * w + s < 2147483648 by omega), show nI s + (1 : Int32) = nI (s + 1) from nI_add s 1]
      exact a1' k
    · by_cases e : t = s
      · subst e; rw [a5' _ (by omega), pe_ieq]
      · exact a4' t (by omega) h2
    · rw [a5' j (by omega), pe_ik (by omega), f1.row (by decide)]
theorem fnL10 {K : am_G → Option (Unit × am_G)} {x2 : Int32} {q : Option pLw} {ρ : Row} {nW pl l : Nat} (hW : nW ≤ 16) (hp : pl < 4) (hl : l ≤ 3) (hV : okV ρ) : ∀ (d w m : Nat) (g : am_G), w + d = nW → d < m → am_I g 2 0 = nI nW → LawR (am_I g 2) q → am_I g 0 20 = nI 0 → rr g = ρ → (∀ i, i < w → am_I g 24 i = (if brd q ρ i pl l = true then nI 0 else nI 1) ∧ ∀ t, t < 6 → am_I g 23 (6 * i + t) = shk q ρ i pl l t) → ∃ g', fX12_findSaying_L10 K (nI pl) (nI l) x2 m (nI w) g = K g' ∧ FQ2 g g' ∧ ∀ i, i < nW → am_I g' 24 i = (if brd q ρ i pl l = true then nI 0 else nI 1) ∧ ∀ t, t < 6 → am_I g' 23 (6 * i + t) = shk q ρ i pl l t
  | 0, w, m, g, hd, hm, h0, hq, h20, hr, hi => by
    obtain ⟨m, rfl⟩ : ∃ m', m = m' + 1 := ⟨m - 1, by omega⟩
    obtain rfl : w = nW := by omega
    refine ⟨g, ?_, (FrS.rf g).Q2, hi⟩
    rw [fX12_findSaying_L10, pu_gd (show am_in (0 : Int32) 5660 = true from rfl), show (0 : Int32).toNatClampNeg = 0 from rfl, h0, if_pos Int32.le_rfl]
  | d + 1, w, m, g, hd, hm, h0, hq, h20, hr, hi => by
    obtain ⟨m, rfl⟩ : ∃ m', m = m' + 1 := ⟨m - 1, by omega⟩
    have hw : w < 16 := by omega
    have hfu : am_fu = 1048576 := rfl
    obtain ⟨g1, e1, f1⟩ := q12_isBarred (g := g) (w := w) (p := pl) (l := l) hq h20 hw
    rw [brd_cg (ag_rr hr) pl l hw] at e1
    have zb : am_zb (if brd q ρ w pl l = true then nI 0 else nI 1) = true := by
      by_cases hb : brd q ρ w pl l = true
      · rw [if_pos hb]; rfl
      · rw [if_neg hb]; rfl
    have f3 : FQ2 g (am_si g1 24 w (if brd q ρ w pl l = true then nI 0 else nI 1)) := f1.Q2.si (Or.inr rfl) _ _
    obtain ⟨g4, b1, b2, b4, b5, b6⟩ := fnL47 (x2 := x2) (q := q) (ρ := ρ) hw hp hl hV 6 0 am_fu (am_si g1 24 w (if brd q ρ w pl l = true then nI 0 else nI 1)) (by omega) (by omega) (by rw [f3.r2]; exact hq) (by rw [f3.1 0 20 (by decide) (by decide) (by omega)]; exact h20) (by rw [rr_cg f3.r2]; exact hr)
    have f4 := f3.tr b2
    obtain ⟨g', c1, c2, c3⟩ := fnL10 (K := K) (x2 := x2) (q := q) hW hp hl hV d (w + 1) m g4 (by omega) (by omega) (by rw [f4.r2]; exact h0) (by rw [f4.r2]; exact hq) (by rw [f4.1 0 20 (by decide) (by decide) (by omega)]; exact h20) (by rw [rr_cg f4.r2]; exact hr) (fun i hi' => by
      rw [b4]
      by_cases e : i = w
      · subst e
        exact ⟨pe_ieq _ _ _ _, fun t ht => b5 t (by omega) ht⟩
      · obtain ⟨x1, x2⟩ := hi i (by omega)
        refine ⟨by rw [pe_ik e, f1.row (by decide)]; exact x1, fun t ht => ?_⟩
        rw [b6 _ (by omega), pe_ine (by decide), f1.row (by decide)]
        exact x2 t ht)
    refine ⟨g', ?_, f4.tr c2, c3⟩
    rw [fX12_findSaying_L10, pu_gd (show am_in (0 : Int32) 5660 = true from rfl), show (0 : Int32).toNatClampNeg = 0 from rfl, h0, if_neg (fun z => absurd ((nI_leI (by omega) (by omega)).mp z) (by omega)), e1, pu_bd, pu_jn]
    dsimp only
    have fin : ∀ x : Int32, x = (if brd q ρ w pl l = true then nI 0 else nI 1) → (am_gd (am_in (nI w) 16) <| am_gd (am_zb x) <| am_let (am_si g1 24 (nI w).toNatClampNeg x) fun g17 => fX12_findSaying_L47 (fun  (g28 : am_G) => am_let (nI w + (1 : Int32)) fun x29 => fX12_findSaying_L10 K (nI pl) (nI l) x2 m x29 g28) (nI pl) (nI l) x2 (nI w) am_fu (0 : Int32) g17) = K g' := by
      intro x hx
      rw [hx, pe_gd (show w < 16 from hw) (by decide), pu_gd zb, pu_let, pe_clamp (show w < 2147483648 by omega)]
      refine (b1 _).trans ?_
      rw [pu_let, show nI w + (1 : Int32) = nI (w + 1) from nI_add w 1]
      exact c1
    by_cases hb : brd q ρ w pl l = true
    · rw [pb_t hb, if_neg (show ¬ nI 1 = (0 : Int32) by decide)]
      exact fin 0 (by rw [if_pos hb]; rfl)
    · rw [pb_f hb, if_pos (show nI 0 = (0 : Int32) from rfl)]
      exact fin 1 (by rw [if_neg hb]; rfl)

/-! ===== plan: the class looks ahead ===== -/
def rhoD (q : Option pLw) (ρ : Row) : Nat → Row
  | 0 => ρ
  | d + 1 => dwn q (rhoD q ρ d)
/-- the night behind day d is quiet -/
def okN (q : Option pLw) (ρ : Row) (d : Nat) : Prop := rhoD q ρ d 6 < nI 999 ∧ (dwnP q (rhoD q ρ d)).1 = 0
theorem rhoD_ok {q : Option pLw} {ρ : Row} (hV : okV ρ) : ∀ d, (∀ e, e < d → okN q ρ e) → okV (rhoD q ρ d)
  | 0, _ => hV
  | d + 1, h => dwn_ok (rhoD_ok hV d fun e he => h e (by omega)) (h d (by omega)).1
/-- talks: words, places, louds -/
def TkC (T : Nat) (tw tp tl : Nat → Nat) (g : am_G) : Prop := am_I g 1 15 = nI T ∧ ∀ k, k < T → am_I g 18 k = nI (tw k) ∧ am_I g 19 k = nI (tp k) ∧ am_I g 20 k = nI (tl k)
def FP4 (g g' : am_G) : Prop := g'.2 = g.2 ∧ ∀ a, a ≠ 37 → a ≠ 38 → a ≠ 46 → a ≠ 47 → a ≠ 48 → am_I g' a = am_I g a
theorem FP4.rf (g : am_G) : FP4 g g := ⟨rfl, fun _ _ _ _ _ _ => rfl⟩
theorem FP4.tr {g h i : am_G} (h1 : FP4 g h) (h2 : FP4 h i) : FP4 g i := ⟨h2.1.trans h1.1, fun a x y z w v => (h2.2 a x y z w v).trans (h1.2 a x y z w v)⟩
theorem FP4.law {g h : am_G} {q : Option pLw} (f : FP4 g h) (hq : LawC g q) : LawC h q := hq.gen f.1 (f.2 1 (by decide) (by decide) (by decide) (by decide) (by decide)) (fun a ha => f.2 a (by omega) (by omega) (by omega) (by omega) (by omega))
theorem FP4.vr {g h : am_G} {ρ : Row} (f : FP4 g h) (hr : vr g 1 65 = ρ) : vr h 1 65 = ρ := by
  rw [← hr]
  exact vr_cg fun a ha => f.2 a (by omega) (by omega) (by omega) (by omega) (by omega)
theorem FP4.tk {T : Nat} {tw tp tl : Nat → Nat} {g h : am_G} (f : FP4 g h) (hk : TkC T tw tp tl g) : TkC T tw tp tl h := by
  unfold TkC at hk ⊢
  rw [f.2 1 (by decide) (by decide) (by decide) (by decide) (by decide), f.2 18 (by decide) (by decide) (by decide) (by decide) (by decide), f.2 19 (by decide) (by decide) (by decide) (by decide) (by decide), f.2 20 (by decide) (by decide) (by decide) (by decide) (by decide)]
  exact hk
theorem FcA.P4 {g h : am_G} (f : FcA g h) : FP4 g h := ⟨f.1, fun a x y _ _ _ => f.2 a x y⟩
theorem FP4.S {g h : am_G} (f : FP4 g h) : FcS g h := ⟨f.1, fun a x _ => f.2 a (by omega) (by omega) (by omega) (by omega) (by omega)⟩
theorem FP4.si {g h : am_G} (f : FP4 g h) {a : Nat} (ha : a = 46 ∨ a = 47 ∨ a = 48) (k : Nat) (x : Int32) : FP4 g (am_si h a k x) := ⟨f.1, fun c y z w v u => by rw [pI_si_ne _ _ _ (show c ≠ a by omega)]; exact f.2 c y z w v u⟩
theorem ndL125 {a1 x16 : Int32} {q : Option pLw} {ρ : Row} {w pl l at' : Nat} (hw : w < 16) (hp : pl < 4) (hl : l ≤ 3) (hV : okV ρ) (hat : at' < 24) : ∀ (d s m : Nat) (g : am_G), s + d = 6 → d < m → LawC g q → PkS g 65 → vr g 1 65 = ρ → SaidC g ρ w pl l → ∃ g', (∀ k, fX4_noteDay_L125 k a1 65 x16 (nI at') m (nI s) g = k g') ∧ FP4 g g' ∧ SaidC g' ρ w pl l ∧ am_I g' 46 = am_I g 46 ∧ am_I g' 47 = am_I g 47 ∧ (∀ t, s ≤ t → t < 6 → am_I g' 48 (6 * at' + t) = shk q ρ w pl l t) ∧ (∀ j, j < 6 * at' + s → am_I g' 48 j = am_I g 48 j)
  | 0, s, m, g, hd, hm, hq, hP, hr, hS => by
    obtain ⟨m, rfl⟩ : ∃ m', m = m' + 1 := ⟨m - 1, by omega⟩
    obtain rfl : s = 6 := by omega
    refine ⟨g, fun k => ?_, FP4.rf g, hS, rfl, rfl, fun t h1 h2 => absurd h1 (by omega), fun _ _ => rfl⟩
    rw [fX4_noteDay_L125, if_pos (show (6 : Int32) ≤ nI 6 by decide)]
  | d + 1, s, m, g, hd, hm, hq, hP, hr, hS => by
    obtain ⟨m, rfl⟩ : ∃ m', m = m' + 1 := ⟨m - 1, by omega⟩
    have hs6 : s < 6 := by omega
    have es : am_I g 66 s = ρ (10 + 10 * s + 0) := by rw [← hr]; exact r_sn (p := 65) hs6
    obtain ⟨g1, e1, f1, S1⟩ := q0_shakes (s := s) hq hV hw hp hl hs6 hS (by rw [r_fa (p := 65) hs6 hp, hr])
    have f2 : FP4 g (am_si g1 48 (6 * at' + s) (shk q ρ w pl l s)) := f1.P4.si (Or.inr (Or.inr rfl)) _ _
    obtain ⟨g', a1', a2', a3', a7', a4', a5', a6'⟩ := ndL125 (a1 := a1) (x16 := x16) hw hp hl hV hat d (s + 1) m (am_si g1 48 (6 * at' + s) (shk q ρ w pl l s)) (by omega) (by omega) (f2.law hq) (hP.eq f1.1) (f2.vr hr) (S1.cg (pI_si_ne _ _ _ (by decide)))
    have hP' := hP
    obtain ⟨h0, h1, h2, h3, h4, h5, s1, s2, s3, s4, s5⟩ := hP'
    refine ⟨g', fun k => ?_, f2.tr a2', a3', by rw [a7', pI_si_ne _ _ _ (by decide), f1.2 46 (by decide) (by decide)], by rw [a4', pI_si_ne _ _ _ (by decide), f1.2 47 (by decide) (by decide)], fun t h1 h2 => ?_, fun j hj => ?_⟩
    · rw [fX4_noteDay_L125, if_neg (show ¬ (6 : Int32) ≤ nI s from fun z => absurd ((nI_leI (a := 6) (by decide) (by omega)).mp z) (by omega)), pu_gd (decide_eq_true h0), h1, pu_ocs, s1, pu_gd (show decide ((20, 6).1 = 20) = true from rfl), pe_gd (show s < 6 from hs6) (by decide), pe_clamp (show s < 2147483648 by omega), es, e1, pu_bd, i6, pe_gd (show 6 * at' + s < 144 by omega) (by decide), pu_let, pu_let, pe_clamp (show 6 * at' + s < 2147483648 by omega), show nI s + (1 : Int32) = nI (s + 1) from nI_add s 1]
      exact a1' k
    · by_cases e : t = s
      · subst e; rw [a6' _ (by omega), pe_ieq]
      · exact a5' t (by omega) h2
    · rw [a6' j (by omega), pe_ik (by omega), f1.2 48 (by decide) (by decide)]
/-- what is known of day d -/
def NDy (q : Option pLw) (T : Nat) (tw tp tl : Nat → Nat) (ρ : Row) (d k : Nat) (g : am_G) : Prop := ∀ i, i < k → am_I g 47 (6 * d + i) = (if brd q ρ (tw i) (tp i) (tl i) = true then nI 0 else nI 1) ∧ ∀ t, t < 6 → am_I g 48 (6 * (6 * d + i) + t) = shk q ρ (tw i) (tp i) (tl i) t
theorem ndL47 {q : Option pLw} {ρ : Row} {T d : Nat} {tw tp tl : Nat → Nat} (hT : T ≤ 6) (hd4 : d < 4) (htk : ∀ k, k < T → tw k < 16 ∧ tp k < 4 ∧ tl k ≤ 3) (hV : okV ρ) : ∀ (c k m : Nat) (g : am_G), k + c = T → c < m → TkC T tw tp tl g → LawC g q → PkS g 65 → vr g 1 65 = ρ → am_I g 37 20 = ρ 7 → am_I g 37 22 = ρ 6 → NDy q T tw tp tl ρ d k g → ∃ g', fX4_noteDay_L47 (nI d) 65 m (nI k) g = some ((), g') ∧ FP4 g g' ∧ am_I g' 46 = am_I g 46 ∧ NDy q T tw tp tl ρ d T g' ∧ (∀ j, j < 6 * d + k → am_I g' 47 j = am_I g 47 j) ∧ ∀ j, j < 6 * (6 * d + k) → am_I g' 48 j = am_I g 48 j
  | 0, k, m, g, hc, hm, hk, hq, hP, hr, h20, h22, hi => by
    obtain ⟨m, rfl⟩ : ∃ m', m = m' + 1 := ⟨m - 1, by omega⟩
    obtain rfl : k = T := by omega
    refine ⟨g, ?_, FP4.rf g, rfl, hi, fun _ _ => rfl, fun _ _ => rfl⟩
    rw [fX4_noteDay_L47, hk.1, if_pos Int32.le_rfl]
  | c + 1, k, m, g, hc, hm, hk, hq, hP, hr, h20, h22, hi => by
    obtain ⟨m, rfl⟩ : ∃ m', m = m' + 1 := ⟨m - 1, by omega⟩
    have hkT : k < T := by omega
    obtain ⟨hw, hp, hl⟩ := htk k hkT
    obtain ⟨t1, t2, t3⟩ := hk.2 k hkT
    have hfu : am_fu = 1048576 := rfl
    obtain ⟨g1, e1, f1, S1⟩ := q0_ofSaid (g := g) (ρ := ρ) hw (tp k) (tl k) (by rw [(vr_wd (p := 65) hw).1, hr]) (by rw [(vr_wd (p := 65) hw).2, hr]) h20 h22
    obtain ⟨g2, e2, f2, S2⟩ := q0_bars (hq.fc f1) hV hw hp hl S1
    have f12 := f1.tr f2
    have zb : am_zb (if brd q ρ (tw k) (tp k) (tl k) = true then nI 0 else nI 1) = true := by
      by_cases hb : brd q ρ (tw k) (tp k) (tl k) = true
      · rw [if_pos hb]; rfl
      · rw [if_neg hb]; rfl
    have f3 : FP4 g (am_si g2 47 (6 * d + k) (if brd q ρ (tw k) (tp k) (tl k) = true then nI 0 else nI 1)) := f12.P4.si (Or.inr (Or.inl rfl)) _ _
    obtain ⟨g4, b1, b2, b3, b7, b4, b5, b6⟩ := ndL125 (a1 := nI d) (x16 := nI k) (q := q) (at' := 6 * d + k) hw hp hl hV (by omega) 6 0 am_fu (am_si g2 47 (6 * d + k) (if brd q ρ (tw k) (tp k) (tl k) = true then nI 0 else nI 1)) (by omega) (by omega) (f3.law hq) (hP.eq f3.1) (f3.vr hr) (S2.cg (pI_si_ne _ _ _ (by decide)))
    have f4 := f3.tr b2
    obtain ⟨g', c1, c2, c6, c3, c4, c5⟩ := ndL47 (q := q) (d := d) hT hd4 htk hV c (k + 1) m g4 (by omega) (by omega) (f4.tk hk) (f4.law hq) (hP.eq f4.1) (f4.vr hr) b3.2.2.2.2.2.1 b3.2.2.2.2.2.2 (fun i hi' => by
      rw [b4]
      by_cases e : i = k
      · subst e
        exact ⟨pe_ieq _ _ _ _, fun t ht => b5 t (by omega) ht⟩
      · obtain ⟨x1, x2⟩ := hi i (by omega)
        refine ⟨by rw [pe_ik (by omega), f12.2 47 (by decide) (by decide)]; exact x1, fun t ht => ?_⟩
        rw [b6 _ (by omega), pe_ine (by decide), f12.2 48 (by decide) (by decide)]
        exact x2 t ht)
    refine ⟨g', ?_, f4.tr c2, by rw [c6, b7, pI_si_ne _ _ _ (by decide), f12.2 46 (by decide) (by decide)], c3, fun j hj => by rw [c4 j (by omega), b4, pe_ik (by omega), f12.2 47 (by decide) (by decide)], fun j hj => by rw [c5 j (by omega), b6 j (by omega), pe_ine (by decide), f12.2 48 (by decide) (by decide)]⟩
    rw [fX4_noteDay_L47, hk.1, if_neg (fun z => absurd ((nI_leI (by omega) (by omega)).mp z) (by omega)), pu_let, pe_gd (show k < 6 by omega) (by decide), pe_gd (show k < 6 by omega) (by decide), pe_gd (show k < 6 by omega) (by decide), pe_clamp (show k < 2147483648 by omega), t1, t2, t3, e1, pu_bd, e2, pu_bd, pu_jn]
    dsimp only
    rw [i6]
    have fin : ∀ x : Int32, x = (if brd q ρ (tw k) (tp k) (tl k) = true then nI 0 else nI 1) → (am_gd (am_in (nI (6 * d + k)) 24) <| am_gd (am_zb x) <| am_let (am_si g2 47 (nI (6 * d + k)).toNatClampNeg x) fun g35 => fX4_noteDay_L125 (fun  (g51 : am_G) => am_let (nI k + (1 : Int32)) fun x52 => fX4_noteDay_L47 (nI d) 65 m x52 g51) (nI d) 65 (nI k) (nI (6 * d + k)) am_fu (0 : Int32) g35) = some ((), g') := by
      intro x hx
      rw [hx, pe_gd (show 6 * d + k < 24 by omega) (by decide), pu_gd zb, pu_let, pe_clamp (show 6 * d + k < 2147483648 by omega)]
      refine (b1 _).trans ?_
      rw [pu_let, show nI k + (1 : Int32) = nI (k + 1) from nI_add k 1]
      exact c1
    by_cases hb : brd q ρ (tw k) (tp k) (tl k) = true
    · rw [pb_t hb, if_neg (show ¬ nI 1 = (0 : Int32) by decide)]
      exact fin 0 (by rw [if_pos hb]; rfl)
    · rw [pb_f hb, if_pos (show nI 0 = (0 : Int32) from rfl)]
      exact fin 1 (by rw [if_neg hb]; rfl)
theorem ndL13 {ρ : Row} {d : Nat} (hd4 : d < 4) : ∀ (c s m : Nat) (g : am_G), s + c = 6 → c < m → PkS g 65 → vr g 1 65 = ρ → ∃ g', (∀ k, fX4_noteDay_L13 k (nI d) 65 m (nI s) g = k g') ∧ (g'.2 = g.2 ∧ ∀ a, a ≠ 46 → am_I g' a = am_I g a) ∧ (∀ t, s ≤ t → t < 6 → am_I g' 46 (6 * d + t) = rmV ρ t) ∧ ∀ j, j < 6 * d + s → am_I g' 46 j = am_I g 46 j
  | 0, s, m, g, hd, hm, hP, hr => by
    obtain ⟨m, rfl⟩ : ∃ m', m = m' + 1 := ⟨m - 1, by omega⟩
    obtain rfl : s = 6 := by omega
    refine ⟨g, fun k => ?_, ⟨rfl, fun _ _ => rfl⟩, fun t h1 h2 => absurd h1 (by omega), fun _ _ => rfl⟩
    rw [fX4_noteDay_L13, if_pos (show (6 : Int32) ≤ nI 6 by decide)]
  | c + 1, s, m, g, hd, hm, hP, hr => by
    obtain ⟨m, rfl⟩ : ∃ m', m = m' + 1 := ⟨m - 1, by omega⟩
    have hs6 : s < 6 := by omega
    have hr' : vr (am_si g 46 (6 * d + s) (rmV ρ s)) 1 65 = ρ := by
      rw [← hr]
      exact vr_cg fun a ha => pI_si_ne _ _ _ (by omega)
    obtain ⟨g', b1, b2, b3, b4⟩ := ndL13 hd4 c (s + 1) m (am_si g 46 (6 * d + s) (rmV ρ s)) (by omega) (by omega) (hP.eq rfl) hr'
    refine ⟨g', fun k => ?_, ⟨b2.1, fun a ha => by rw [b2.2 a ha, pI_si_ne _ _ _ ha]⟩, fun t h1 h2 => ?_, fun t ht => ?_⟩
    · rw [fX4_noteDay_L13, if_neg (show ¬ (6 : Int32) ≤ nI s from fun z => absurd ((nI_leI (a := 6) (by decide) (by omega)).mp z) (by omega)), q9_roomOn hP hs6 hr, pu_bd, i6, pe_gd (show 6 * d + s < 24 by omega) (by decide), pu_let, pu_let, pe_clamp (show 6 * d + s < 2147483648 by omega), show nI s + (1 : Int32) = nI (s + 1) from nI_add s 1]
      exact b1 k
    · by_cases e : t = s
      · subst e; rw [b4 _ (by omega), pe_ieq]
      · exact b3 t (by omega) h2
    · rw [b4 t (by omega), pe_ik (by omega)]
/-- all of day d -/
def NDa (q : Option pLw) (T : Nat) (tw tp tl : Nat → Nat) (ρ : Row) (d : Nat) (g : am_G) : Prop := NDy q T tw tp tl ρ d T g ∧ ∀ t, t < 6 → am_I g 46 (6 * d + t) = rmV ρ t
theorem q4_noteDay {q : Option pLw} {ρ : Row} {T d : Nat} {tw tp tl : Nat → Nat} {g : am_G} (hT : T ≤ 6) (hd4 : d < 4) (htk : ∀ k, k < T → tw k < 16 ∧ tp k < 4 ∧ tl k ≤ 3) (hV : okV ρ) (hk : TkC T tw tp tl g) (hq : LawC g q) (hP : PkS g 65) (hr : vr g 1 65 = ρ) : ∃ g', fX4_noteDay (nI d) 65 g = some ((), g') ∧ FP4 g g' ∧ NDa q T tw tp tl ρ d g' ∧ (∀ j, j < 6 * d → am_I g' 46 j = am_I g 46 j ∧ am_I g' 47 j = am_I g 47 j) ∧ ∀ j, j < 36 * d → am_I g' 48 j = am_I g 48 j := by
  have hfu : am_fu = 1048576 := rfl
  obtain ⟨g1, e1, f1, d1, d2, d3⟩ := q0_onDay (am_I g 65 5) g
  have r1 := f1.P4.vr hr
  have P1 : PkS g1 65 := hP.eq f1.1
  obtain ⟨g2, b1, b2, b3, b4⟩ := ndL13 (ρ := ρ) hd4 6 0 am_fu g1 (by omega) (by omega) P1 r1
  have f2 : FP4 g g2 := f1.P4.tr ⟨b2.1, fun a _ _ z _ _ => b2.2 a z⟩
  obtain ⟨g3, c1, c2, c6, c3, c4, c5⟩ := ndL47 (q := q) (ρ := ρ) (d := d) hT hd4 htk hV T 0 am_fu g2 (by omega) (by omega) (f2.tk hk) (f2.law hq) (hP.eq f2.1) (f2.vr hr) (by rw [b2.2 37 (by decide), d2, r_mo (p := 65), hr]) (by rw [b2.2 37 (by decide), d1, show am_I g 65 5 = vr g 1 65 6 from r_da, hr]) (fun i hi => absurd hi (by omega))
  refine ⟨g3, ?_, f2.tr c2, ⟨c3, fun t ht => by rw [c6]; exact b3 t (by omega) ht⟩, fun j hj => ⟨by rw [c6, b4 j (by omega), f1.2 46 (by decide) (by decide)], by rw [c4 j (by omega), b2.2 47 (by decide), f1.2 47 (by decide) (by decide)]⟩, fun j hj => by rw [c5 j (by omega), b2.2 48 (by decide), f1.2 48 (by decide) (by decide)]⟩
  unfold fX4_noteDay
  rw [pu_gd (decide_eq_true hP.1), e1, pu_bd]
  exact (b1 _).trans c1
theorem NDa.cg {q : Option pLw} {T d d' : Nat} {tw tp tl : Nat → Nat} {ρ : Row} {g g' : am_G} (hT : T ≤ 6) (h : NDa q T tw tp tl ρ d g) (hd : d < d') (h1 : ∀ j, j < 6 * d' → am_I g' 46 j = am_I g 46 j ∧ am_I g' 47 j = am_I g 47 j) (h2 : ∀ j, j < 36 * d' → am_I g' 48 j = am_I g 48 j) : NDa q T tw tp tl ρ d g' := by
  refine ⟨fun i hi => ?_, fun t ht => by rw [(h1 _ (by omega)).1]; exact h.2 t ht⟩
  obtain ⟨a1, a2⟩ := h.1 i hi
  exact ⟨by rw [(h1 _ (by omega)).2]; exact a1, fun t ht => by rw [h2 _ (by omega)]; exact a2 t ht⟩
theorem lookL {q : Option pLw} {ρ : Row} {T N : Nat} {tw tp tl : Nat → Nat} (hT : T ≤ 6) (hN : N ≤ 4) (htk : ∀ k, k < T → tw k < 16 ∧ tp k < 4 ∧ tl k ≤ 3) (hV : okV ρ) : ∀ (c d m : Nat) (g : am_G), d + c = N → c < m → TkC T tw tp tl g → LawC g q → PkS g 65 → vr g 1 65 = rhoD q ρ (d - 1) → (∀ e, e < d → NDa q T tw tp tl (rhoD q ρ e) e g) → (∀ e, e + 1 < d → okN q ρ e) →
    (∃ g', fX11_lookAhead_L16 (nI N) m (nI d) g = some (nI 1, g') ∧ FcS g g' ∧ (∀ e, e < N → NDa q T tw tp tl (rhoD q ρ e) e g') ∧ ∀ e, e + 1 < N → okN q ρ e) ∨
    (∃ g' e, fX11_lookAhead_L16 (nI N) m (nI d) g = some (nI 0, g') ∧ FcS g g' ∧ e + 1 < N ∧ ¬ okN q ρ e ∧ ∀ e', e' < e → okN q ρ e')
  | 0, d, m, g, hc, hm, hk, hq, hP, hr, hD, hO => by
    obtain ⟨m, rfl⟩ : ∃ m', m = m' + 1 := ⟨m - 1, by omega⟩
    obtain rfl : d = N := by omega
    left
    refine ⟨g, ?_, FcS.rf g, hD, hO⟩
    rw [fX11_lookAhead_L16, if_pos Int32.le_rfl]
    rfl
  | c + 1, d, m, g, hc, hm, hk, hq, hP, hr, hD, hO => by
    obtain ⟨m, rfl⟩ : ∃ m', m = m' + 1 := ⟨m - 1, by omega⟩
    have hp65 : okP 65 := Or.inr (by decide)
    -- the day is noted
    have note : ∀ g1, FcS g g1 → Fc 65 g g1 → vr g1 1 65 = rhoD q ρ d → (∀ e, e < d → okN q ρ e) → (∃ g', (am_bd (fX4_noteDay (nI d) 65 g1) fun u10 g11 => am_let (nI d + (1 : Int32)) fun x13 => fX11_lookAhead_L16 (nI N) m x13 g11) = some (nI 1, g') ∧ FcS g g' ∧ (∀ e, e < N → NDa q T tw tp tl (rhoD q ρ e) e g') ∧ ∀ e, e + 1 < N → okN q ρ e) ∨ (∃ g' e, (am_bd (fX4_noteDay (nI d) 65 g1) fun u10 g11 => am_let (nI d + (1 : Int32)) fun x13 => fX11_lookAhead_L16 (nI N) m x13 g11) = some (nI 0, g') ∧ FcS g g' ∧ e + 1 < N ∧ ¬ okN q ρ e ∧ ∀ e', e' < e → okN q ρ e') := by
      intro g1 f1 f1' r1 hO'
      have hk1 : TkC T tw tp tl g1 := by
        unfold TkC at hk ⊢
        rw [f1'.2 1 (by omega) (by decide) (by decide), f1'.2 18 (by omega) (by decide) (by decide), f1'.2 19 (by omega) (by decide) (by decide), f1'.2 20 (by omega) (by decide) (by decide)]
        exact hk
      obtain ⟨g2, n1, n2, n3, n4, n5⟩ := q4_noteDay (q := q) (d := d) hT (by omega) htk (rhoD_ok hV d hO') hk1 (hq.fcp hp65 f1') (hP.eq f1'.1) r1
      have ih := lookL (q := q) (ρ := ρ) hT hN htk hV c (d + 1) m g2 (by omega) (by omega) (n2.tk hk1) (n2.law (hq.fcp hp65 f1')) (hP.eq (n2.1.trans f1'.1)) (n2.vr r1) (fun e he => by
        by_cases z : e = d
        · subst z; exact n3
        · exact NDa.cg hT (hD e (by omega)) (show e < d by omega) (fun j hj => by rw [(n4 j hj).1, (n4 j hj).2, f1'.2 46 (by omega) (by decide) (by decide), f1'.2 47 (by omega) (by decide) (by decide)]; exact ⟨rfl, rfl⟩) (fun j hj => by rw [n5 j hj, f1'.2 48 (by omega) (by decide) (by decide)])) (fun e he => hO' e (by omega))
      rw [n1, pu_bd, pu_let, show nI d + (1 : Int32) = nI (d + 1) from nI_add d 1]
      have fS := f1.tr n2.S
      rcases ih with ⟨g', x1, x2, x3⟩ | ⟨g', e, x1, x2, x3⟩
      · exact Or.inl ⟨g', x1, fS.tr x2, x3⟩
      · exact Or.inr ⟨g', e, x1, fS.tr x2, x3⟩
    rw [fX11_lookAhead_L16, if_neg (fun z => absurd ((nI_leI (by omega) (by omega)).mp z) (by omega)), pu_jn]
    dsimp only
    by_cases h0 : d = 0
    · subst h0
      rw [if_pos (show nI 0 ≤ (0 : Int32) from Int32.le_rfl)]
      exact note g (FcS.rf g) (Fc.rf 65 g) hr (fun e he => absurd he (by omega))
    · obtain ⟨d, rfl⟩ : ∃ d', d = d' + 1 := ⟨d - 1, by omega⟩
      rw [show d + 1 - 1 = d by omega] at hr
      have hO0 : ∀ e, e < d → okN q ρ e := fun e he => hO e (by omega)
      have hVd := rhoD_ok hV d hO0
      obtain ⟨x, hx, ex⟩ := hVd.day
      have e5 : am_I g 65 5 = nI x := by rw [show am_I g 65 5 = vr g 1 65 6 from r_da, hr]; exact ex
      rw [if_neg (show ¬ nI (d + 1) ≤ (0 : Int32) from fun z => absurd ((nI_leI (b := 0) (by omega) (by decide)).mp z) (by omega)), e5]
      by_cases h9 : x = 999
      · right
        subst h9
        rw [if_pos (show (999 : Int32) ≤ nI 999 by decide)]
        refine ⟨g, d, rfl, FcS.rf g, by omega, fun z => ?_, hO0⟩
        have := z.1
        rw [ex] at this
        exact absurd this (by decide)
      · have hlt : rhoD q ρ d 6 < nI 999 := by rw [ex]; exact nI_lt (by omega) (by decide)
        rw [if_neg (show ¬ (999 : Int32) ≤ nI x from fun z => absurd ((nI_leI (a := 999) (by decide) (by omega)).mp z) (by omega))]
        obtain ⟨g1, a1, a2, a3⟩ := q11_night hp65 hP hq hr hVd hlt
        have fS1 : FcS g g1 := ⟨a3.1, fun a h1 h2 => a3.2 a (by omega) (by omega) (by omega)⟩
        rw [a1, pu_bd]
        by_cases hz : (dwnP q (rhoD q ρ d)).1 = 0
        · rw [hz, if_pos (show nI 0 ≤ (0 : Int32) from Int32.le_rfl)]
          refine note g1 fS1 a3 ?_ (fun e he => by
            by_cases z : e = d
            · subst z; exact ⟨hlt, hz⟩
            · exact hO0 e (by omega))
          rw [a2]
          exact sldU_e 6 0 _ hz
        · have hle := dwnP_le q (rhoD q ρ d)
          right
          rw [if_neg (show ¬ nI (dwnP q (rhoD q ρ d)).1 ≤ (0 : Int32) from fun z => absurd ((nI_leI (b := 0) (by omega) (by decide)).mp z) (by omega))]
          exact ⟨g1, d, rfl, fS1, by omega, fun z => hz z.2, hO0⟩

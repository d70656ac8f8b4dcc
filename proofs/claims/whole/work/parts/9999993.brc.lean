/-! ===== bring: the class's columns ===== -/
def mxF (op : Nat → Bool) (SH : Nat → Nat → Nat → Nat) (s a : Nat) : Nat → Nat
  | 0 => 0
  | o + 1 => if op o = true then max (mxF op SH s a o) (SH o s a) else mxF op SH s a o
theorem mxF_ge {op : Nat → Bool} {SH : Nat → Nat → Nat → Nat} {s a o : Nat} (ho : op o = true) : ∀ n, o < n → SH o s a ≤ mxF op SH s a n
  | 0, h => absurd h (by omega)
  | n + 1, h => by
    rw [mxF]
    by_cases e : o = n
    · subst e; rw [if_pos ho]; exact Nat.le_max_right _ _
    · have := mxF_ge (s := s) (a := a) (SH := SH) ho n (by omega)
      split
      · exact Nat.le_trans this (Nat.le_max_left _ _)
      · exact this
theorem mxF_le {op : Nat → Bool} {SH : Nat → Nat → Nat → Nat} {s a : Nat} (h : ∀ o, SH o s a ≤ 999) : ∀ n, mxF op SH s a n ≤ 999
  | 0 => by rw [mxF]; omega
  | n + 1 => by
    rw [mxF]
    have := mxF_le (op := op) h n
    split
    · exact Nat.max_le.mpr ⟨this, h n⟩
    · exact this
theorem max_nI {a b : Nat} (ha : a < 2147483648) (hb : b < 2147483648) : am_max (nI a) (nI b) = nI (max a b) := by
  by_cases h : a < b
  · rw [show am_max (nI a) (nI b) = nI b from if_pos (nI_lt h hb), Nat.max_eq_right (by omega)]
  · rw [show am_max (nI a) (nI b) = nI a from if_neg (fun z => h ((nI_ltI ha hb).mp z)), Nat.max_eq_left (by omega)]
/-- the class's asker and its valley -/
def BFc (q : Option pLw) (ρ0 : Row) (g : am_G) : Prop := LawC g q ∧ vr g 1 2 = ρ0 ∧ am_I g 37 20 = ρ0 7 ∧ am_I g 37 22 = ρ0 6
def FcB (g g' : am_G) : Prop := g'.2 = g.2 ∧ ∀ a, a ≠ 37 → a ≠ 38 → ¬ (51 ≤ a ∧ a ≤ 61) → am_I g' a = am_I g a
theorem FcB.rf (g : am_G) : FcB g g := ⟨rfl, fun _ _ _ _ => rfl⟩
theorem FcB.tr {g h i : am_G} (h1 : FcB g h) (h2 : FcB h i) : FcB g i := ⟨h2.1.trans h1.1, fun a x y z => (h2.2 a x y z).trans (h1.2 a x y z)⟩
theorem FcA.B {g h : am_G} (f : FcA g h) : FcB g h := ⟨f.1, fun a x y _ => f.2 a x y⟩
theorem FcB.si {g h : am_G} (f : FcB g h) {a : Nat} (ha : 51 ≤ a ∧ a ≤ 61) (k : Nat) (x : Int32) : FcB g (am_si h a k x) := ⟨f.1, fun b y z w => by rw [pI_si_ne _ _ _ (show b ≠ a by omega)]; exact f.2 b y z w⟩
theorem FcB.S {g h : am_G} (f : FcB g h) : FcS g h := ⟨f.1, fun a x _ => f.2 a (by omega) (by omega) (by omega)⟩
theorem BFc.fb {q : Option pLw} {ρ0 : Row} {g g' : am_G} (h : BFc q ρ0 g) (f : FcB g g') (h37 : am_I g' 37 20 = am_I g 37 20) (h37' : am_I g' 37 22 = am_I g 37 22) : BFc q ρ0 g' := by
  obtain ⟨h1, h2, h3, h4⟩ := h
  refine ⟨h1.gen f.1 (f.2 1 (by decide) (by decide) (by omega)) (fun a ha => f.2 a (by omega) (by omega) (by omega)), ?_, by rw [h37]; exact h3, by rw [h37']; exact h4⟩
  rw [← h2]
  exact vr_cg fun a ha => f.2 a (by omega) (by omega) (by omega)
section COL
variable {q : Option pLw} {ρ0 : Row} {O pl : Nat} {op : Nat → Bool} {SH : Nat → Nat → Nat → Nat}
/-- shakes, by option, slope and snow -/
def ShF (q : Option pLw) (ρ0 : Row) (pl : Nat) (SH : Nat → Nat → Nat → Nat) : Prop := (∀ o s a, SH o s a ≤ 999) ∧ ∀ o, o < 48 → ∀ s, s < 6 → ∀ a, a ≤ 9999 → shk q (am_up ρ0 (10 + 10 * s + 0) (nI a)) (o / 3) pl (o % 3 + 1) s = nI (SH o s a)
theorem q0_askS {g : am_G} {o s a : Nat} (ho : o < 48) (hpl : pl < 4) (hs : s < 6) (ha : a ≤ 9999) (hV : okV ρ0) (hSH : ShF q ρ0 pl SH) (hB : BFc q ρ0 g) : ∃ g1 g2, fX0_ofSaid (nI (o / 3)) (nI pl) (nI (o % 3 + 1)) g = some ((), g1) ∧ fX0_shakes (nI s) (nI a) g1 = some (nI (SH o s a), g2) ∧ FcA g g2 ∧ BFc q ρ0 g2 := by
  obtain ⟨h1, h2, h3, h4⟩ := hB
  have hw : o / 3 < 16 := by omega
  obtain ⟨g1, e1, f1, S1⟩ := q0_ofSaid (g := g) (ρ := ρ0) hw pl (o % 3 + 1) (by rw [(vr_wd (p := 2) hw).1, h2]) (by rw [(vr_wd (p := 2) hw).2, h2]) h3 h4
  have hV' : okV (am_up ρ0 (10 + 10 * s + 0) (nI a)) := hV.up (okAt_sn hs ha)
  have S1' : SaidC g1 (am_up ρ0 (10 + 10 * s + 0) (nI a)) (o / 3) pl (o % 3 + 1) := by
    unfold SaidC at S1 ⊢
    rw [am_up_ne (by omega), am_up_ne (by omega), am_up_ne (by omega), am_up_ne (by omega)]
    exact S1
  have r1 : vr g1 1 2 = ρ0 := ((show okP 2 from Or.inl rfl).fa f1).trans h2
  obtain ⟨g2, e2, f2, S2⟩ := q0_shakes (s := s) (h1.fc f1) hV' hw hpl (by omega) hs S1' (by rw [r_fa (p := 2) hs hpl, r1, am_up_ne (by omega)])
  rw [am_up_eq, hSH.2 o ho s hs a ha] at e2
  have f12 := f1.tr f2
  refine ⟨g1, g2, e1, e2, f12, h1.fc f12, ((show okP 2 from Or.inl rfl).fa f12).trans h2, ?_, ?_⟩
  · have := S2.2.2.2.2.2.1
    rw [am_up_ne (by omega)] at this
    exact this
  · have := S2.2.2.2.2.2.2
    rw [am_up_ne (by omega)] at this
    exact this
def FCl (s : Nat) (g g' : am_G) : Prop := g'.2 = g.2 ∧ ∀ a j, a ≠ 37 → a ≠ 38 → ¬ (a = 54 ∧ 4 * s ≤ j ∧ j < 4 * s + 4) → ¬ (a = 55 ∧ 4 * s ≤ j ∧ j < 4 * s + 4) → ¬ (a = 56 ∧ j = s) → ¬ (a = 57 ∧ 192 * s ≤ j ∧ j < 192 * s + 192) → am_I g' a j = am_I g a j
theorem FCl.rf (s : Nat) (g : am_G) : FCl s g g := ⟨rfl, fun _ _ _ _ _ _ _ _ => rfl⟩
theorem FCl.tr {s : Nat} {g h i : am_G} (h1 : FCl s g h) (h2 : FCl s h i) : FCl s g i := ⟨h2.1.trans h1.1, fun a j x1 x2 x3 x4 x5 x6 => (h2.2 a j x1 x2 x3 x4 x5 x6).trans (h1.2 a j x1 x2 x3 x4 x5 x6)⟩
theorem FCl.B {s : Nat} {g h : am_G} (f : FCl s g h) : FcB g h := ⟨f.1, fun a x y z => funext fun j => f.2 a j x y (by omega) (by omega) (by omega) (by omega)⟩
/-- a column that is kept -/
def ColV (O : Nat) (op : Nat → Bool) (SH : Nat → Nat → Nat → Nat) (g : am_G) (s ci a : Nat) : Prop := am_I g 54 ci = nI a ∧ (∀ o, o < O → op o = true → am_I g 57 (48 * ci + o) = nI (SH o s a)) ∧ am_I g 55 ci = nI (mxF op SH s a O)
def CacV (O : Nat) (op : Nat → Bool) (SH : Nat → Nat → Nat → Nat) (M : Nat) (g : am_G) : Prop := ∀ s, s < 6 → ∃ made, am_I g 56 s = nI made ∧ made ≤ M ∧ ∀ i, i < 4 → i < made → ∃ a, a ≤ 9999 ∧ ColV O op SH g s (4 * s + i) a
/-- what the class has set for a search -/
def OpC (O pl : Nat) (op : Nat → Bool) (g : am_G) : Prop := am_I g 51 12 = nI O ∧ am_I g 51 14 = nI pl ∧ ∀ o, o < O → am_I g 52 o = (if op o = true then nI 1 else nI 0)
theorem OpC.cg {g g' : am_G} (h : OpC O pl op g) (h1 : am_I g' 51 = am_I g 51) (h2 : am_I g' 52 = am_I g 52) : OpC O pl op g' := by
  unfold OpC at h ⊢
  rw [h1, h2]
  exact h
theorem colL88 {s a ci : Nat} (hO : O ≤ 48) (hpl : pl < 4) (hs : s < 6) (ha : a ≤ 9999) (hci : 4 * s ≤ ci ∧ ci < 4 * s + 4) (hV : okV ρ0) (hSH : ShF q ρ0 pl SH) : ∀ (e o m : Nat) (g : am_G), o + e = O → e < m → OpC O pl op g → BFc q ρ0 g → (∀ o', o' < o → op o' = true → am_I g 57 (48 * ci + o') = nI (SH o' s a)) → am_I g 55 ci = nI (mxF op SH s a o) → ∃ g', fX1_columnOf_L88 (nI s) (nI a) (nI ci) m (nI o) g = some (nI ci, g') ∧ FCl s g g' ∧ BFc q ρ0 g' ∧ (∀ o', o' < O → op o' = true → am_I g' 57 (48 * ci + o') = nI (SH o' s a)) ∧ am_I g' 55 ci = nI (mxF op SH s a O) ∧ am_I g' 54 = am_I g 54 ∧ am_I g' 56 = am_I g 56 ∧ (∀ j, j ≠ ci → am_I g' 55 j = am_I g 55 j) ∧ ∀ j, ¬ (48 * ci ≤ j ∧ j < 48 * ci + 48) → am_I g' 57 j = am_I g 57 j
  | 0, o, m, g, he, hm, hO1, hB, h57, h55 => by
    obtain ⟨m, rfl⟩ : ∃ m', m = m' + 1 := ⟨m - 1, by omega⟩
    obtain rfl : o = O := by omega
    refine ⟨g, ?_, FCl.rf s g, hB, h57, h55, rfl, rfl, fun _ _ => rfl, fun _ _ => rfl⟩
    rw [fX1_columnOf_L88, hO1.1, if_pos Int32.le_rfl]
  | e + 1, o, m, g, he, hm, hO1, hB, h57, h55 => by
    obtain ⟨m, rfl⟩ : ∃ m', m = m' + 1 := ⟨m - 1, by omega⟩
    have ho : o < O := by omega
    have eo : nI o + (1 : Int32) = nI (o + 1) := nI_add o 1
    rw [fX1_columnOf_L88, hO1.1, if_neg (fun z => absurd ((nI_leI (by omega) (by omega)).mp z) (by omega)), pe_gd (show o < 48 by omega) (by decide), pu_jn]
    dsimp only
    rw [pe_clamp (show o < 2147483648 by omega), hO1.2.2 o ho, hO1.2.1]
    by_cases hop : op o = true
    · rw [if_pos hop, if_neg (show ¬ nI 1 = (0 : Int32) by decide)]
      obtain ⟨g1, g2, a1, a2, a3, a4⟩ := q0_askS (g := g) (o := o) (s := s) (a := a) (by omega) hpl hs ha hV hSH hB
      have e3 : nI o / (3 : Int32) = nI (o / 3) := pdv (d := 3) (by omega) (by decide) (by decide)
      have e3' : nI o - nI (o / 3) * (3 : Int32) + (1 : Int32) = nI (o % 3 + 1) := by
        have := md_N (X := o) (N := 3) (by omega) (by decide) (by decide)
        rw [show nI 3 = (3 : Int32) from rfl, e3] at this
        rw [this]
        exact nI_add _ 1
      rw [e3, e3', a1, pu_bd, a2, pu_bd, show nI ci * (48 : Int32) + nI o = nI (48 * ci + o) by rw [show (48 : Int32) = nI 48 from rfl, nn_mul, nI_add, Nat.mul_comm], pe_gd (show 48 * ci + o < 1152 by omega) (by decide), pu_let, pe_gd (show ci < 24 by omega) (by decide), pe_gd (show ci < 24 by omega) (by decide), pu_let, pu_let, eo, pe_clamp (show 48 * ci + o < 2147483648 by omega), pe_clamp (show ci < 2147483648 by omega), pe_ine (show (55 : Nat) ≠ 57 by decide), a3.2 55 (by decide) (by decide), h55]
      have hle := mxF_le (op := op) (s := s) (a := a) (fun o => hSH.1 o s a) o
      have hle2 := hSH.1 o s a
      rw [max_nI (by omega) (by omega)]
      have f2 : FCl s g (am_si (am_si g2 57 (48 * ci + o) (nI (SH o s a))) 55 ci (nI (max (mxF op SH s a o) (SH o s a)))) := ⟨a3.1, fun a j x1 x2 x3 x4 x5 x6 => by rw [pI_si, if_neg (fun z => x4 ⟨z.1, by omega⟩), pI_si, if_neg (fun z => x6 ⟨z.1, by omega⟩), a3.2 a x1 x2]⟩
      have n51 : ∀ k, am_I (am_si (am_si g2 57 (48 * ci + o) (nI (SH o s a))) 55 ci (nI (max (mxF op SH s a o) (SH o s a)))) k = am_I g k ∨ k = 37 ∨ k = 38 ∨ k = 57 ∨ k = 55 := fun k => by
        by_cases z : k = 37 ∨ k = 38 ∨ k = 57 ∨ k = 55
        · exact Or.inr z
        · left; rw [pI_si_ne _ _ _ (by omega), pI_si_ne _ _ _ (by omega), a3.2 k (by omega) (by omega)]
      have k51 : am_I (am_si (am_si g2 57 (48 * ci + o) (nI (SH o s a))) 55 ci (nI (max (mxF op SH s a o) (SH o s a)))) 51 = am_I g 51 := (n51 51).resolve_right (by omega)
      have k52 : am_I (am_si (am_si g2 57 (48 * ci + o) (nI (SH o s a))) 55 ci (nI (max (mxF op SH s a o) (SH o s a)))) 52 = am_I g 52 := (n51 52).resolve_right (by omega)
      obtain ⟨g', b1, b2, b3, b4, b5, b6, b7, b8, b9⟩ := colL88 hO hpl hs ha hci hV hSH e (o + 1) m _ (by omega) (by omega) (hO1.cg k51 k52) (a4.fb (((FcB.rf g2).si (by decide) _ _).si (by decide) _ _) (by rw [pe_ine (by decide), pe_ine (by decide)]) (by rw [pe_ine (by decide), pe_ine (by decide)])) (fun o' h1 h2 => by
        rw [pe_ine (by decide)]
        by_cases z : o' = o
        · subst z; rw [pe_ieq]
        · rw [pe_ik (by omega), a3.2 57 (by decide) (by decide)]; exact h57 o' (by omega) h2) (by rw [pe_ieq, mxF, if_pos hop])
      refine ⟨g', b1, f2.tr b2, b3, b4, b5, ?_, ?_, fun j hj => ?_, fun j hj => ?_⟩
      · rw [b6]; exact (n51 54).resolve_right (by omega)
      · rw [b7]; exact (n51 56).resolve_right (by omega)
      · rw [b8 j hj, pe_ik hj, pe_ine (by decide), a3.2 55 (by decide) (by decide)]
      · rw [b9 j hj, pe_ine (by decide), pe_ik (by omega), a3.2 57 (by decide) (by decide)]
    · rw [if_neg hop, if_pos (show nI 0 = (0 : Int32) from rfl), pu_let, eo]
      exact colL88 hO hpl hs ha hci hV hSH e (o + 1) m g (by omega) (by omega) hO1 hB (fun o' h1 h2 => by
        by_cases z : o' = o
        · subst z; exact absurd h2 hop
        · exact h57 o' (by omega) h2) (by rw [mxF, if_neg hop]; exact h55)
theorem colL10 {K : am_G → Option (Int32 × am_G)} {s a made : Nat} {g : am_G} (hs : s < 6) (hmade : made < 2147483648) : ∀ (e i m : Nat), i + e = 4 → e < m → (∃ i', i' < 4 ∧ i' < made ∧ am_I g 54 (4 * s + i') = nI a ∧ fX1_columnOf_L10 K (nI s) (nI a) (nI made) m (nI i) g = some (nI (4 * s + i'), g)) ∨ fX1_columnOf_L10 K (nI s) (nI a) (nI made) m (nI i) g = K g
  | 0, i, m, he, hm => by
    obtain ⟨m, rfl⟩ : ∃ m', m = m' + 1 := ⟨m - 1, by omega⟩
    obtain rfl : i = 4 := by omega
    right
    rw [fX1_columnOf_L10, if_pos (show (4 : Int32) ≤ nI 4 by decide)]
  | e + 1, i, m, he, hm => by
    obtain ⟨m, rfl⟩ : ∃ m', m = m' + 1 := ⟨m - 1, by omega⟩
    have ei : nI s * (4 : Int32) + nI i = nI (4 * s + i) := by rw [show (4 : Int32) = nI 4 from rfl, nn_mul, nI_add, Nat.mul_comm]
    rw [fX1_columnOf_L10, if_neg (show ¬ (4 : Int32) ≤ nI i from fun z => absurd ((nI_leI (a := 4) (by decide) (by omega)).mp z) (by omega))]
    by_cases h1 : made ≤ i
    · right
      rw [if_pos ((nI_leI hmade (by omega)).mpr h1)]
    · rw [if_neg (fun z => h1 ((nI_leI hmade (by omega)).mp z)), ei, pe_gd (show 4 * s + i < 24 by omega) (by decide), pe_clamp (show 4 * s + i < 2147483648 by omega)]
      by_cases h2 : am_I g 54 (4 * s + i) = nI a
      · left
        exact ⟨i, by omega, by omega, h2, by rw [if_pos h2]⟩
      · rw [if_neg h2, pu_let, show nI i + (1 : Int32) = nI (i + 1) from nI_add i 1]
        exact colL10 hs hmade e (i + 1) m (by omega) (by omega)
theorem q1_columnOf {s a M : Nat} {g : am_G} (hO : O ≤ 48) (hpl : pl < 4) (hs : s < 6) (ha : a ≤ 9999) (hM : M < 2147483647) (hV : okV ρ0) (hSH : ShF q ρ0 pl SH) (hO1 : OpC O pl op g) (hB : BFc q ρ0 g) (hC : CacV O op SH M g) : ∃ i g', i < 4 ∧ fX1_columnOf (nI s) (nI a) g = some (nI (4 * s + i), g') ∧ FCl s g g' ∧ BFc q ρ0 g' ∧ CacV O op SH (M + 1) g' ∧ ColV O op SH g' s (4 * s + i) a := by
  have hfu : am_fu = 1048576 := rfl
  obtain ⟨made, m1, m2, m3⟩ := hC s hs
  unfold fX1_columnOf
  rw [pe_gd (show s < 6 from hs) (by decide), pe_clamp (show s < 2147483648 by omega), m1, pu_let]
  rcases colL10 (K := fun  (g11 : am_G) =>
    am_let ((nI s * (4 : Int32)) + (nI made - nI made / (4 : Int32) * (4 : Int32))) fun x12 =>
    am_gd (am_in (nI s) 6) <|
    am_gd (am_in (nI s) 6) <|
    am_let (am_si g11 56 s ((am_I g11 56 s) + (1 : Int32))) fun g15 =>
    am_gd (am_in x12 24) <|
    am_let (am_si g15 54 x12.toNatClampNeg (nI a)) fun g17 =>
    am_gd (am_in x12 24) <|
    am_let (am_si g17 55 x12.toNatClampNeg (0 : Int32)) fun g19 =>
    fX1_columnOf_L88 (nI s) (nI a) x12 am_fu (0 : Int32) g19) (s := s) (a := a) (made := made) (g := g) hs (by omega) 4 0 am_fu (by omega) (by omega) with ⟨i, i1, i2, i3, i4⟩ | hk
  · obtain ⟨a', ha', v1, v2, v3⟩ := m3 i i1 i2
    have ea : a' = a := (nn_eq (by omega) (by omega)).mp (v1.symm.trans i3)
    subst ea
    refine ⟨i, g, i1, i4, FCl.rf s g, hB, fun t ht => ?_, v1, v2, v3⟩
    obtain ⟨md, w1, w2, w3⟩ := hC t ht
    exact ⟨md, w1, by omega, w3⟩
  · have hmd : nI made - nI made / (4 : Int32) * (4 : Int32) = nI (made % 4) := md_N (X := made) (N := 4) (by omega) (by decide) (by decide)
    have e12 : nI s * (4 : Int32) + nI (made % 4) = nI (4 * s + made % 4) := by rw [show (4 : Int32) = nI 4 from rfl, nn_mul, nI_add, Nat.mul_comm]
    have h4 : made % 4 < 4 := Nat.mod_lt _ (by decide)
    have k : ∀ b, b ≠ 54 → b ≠ 55 → b ≠ 56 → am_I (am_si (am_si (am_si g 56 s (nI (made + 1))) 54 (4 * s + made % 4) (nI a)) 55 (4 * s + made % 4) (nI 0)) b = am_I g b := fun b h1 h2 h3 => by rw [pI_si_ne _ _ _ h2, pI_si_ne _ _ _ h1, pI_si_ne _ _ _ h3]
    obtain ⟨g', b1, b2, b3, b4, b5, b6, b7, b8, b9⟩ := colL88 (q := q) (ρ0 := ρ0) (O := O) (op := op) (s := s) (a := a) (ci := 4 * s + made % 4) hO hpl hs ha (by omega) hV hSH O 0 am_fu (am_si (am_si (am_si g 56 s (nI (made + 1))) 54 (4 * s + made % 4) (nI a)) 55 (4 * s + made % 4) (nI 0)) (by omega) (by omega) (hO1.cg (k 51 (by decide) (by decide) (by decide)) (k 52 (by decide) (by decide) (by decide))) (hB.fb ((((FcB.rf g).si (by decide) _ _).si (by decide) _ _).si (by decide) _ _) (by rw [k 37 (by decide) (by decide) (by decide)]) (by rw [k 37 (by decide) (by decide) (by decide)])) (fun o' h1 => absurd h1 (by omega)) (by rw [pe_ieq]; rfl)
    have f1 : FCl s g (am_si (am_si (am_si g 56 s (nI (made + 1))) 54 (4 * s + made % 4) (nI a)) 55 (4 * s + made % 4) (nI 0)) := ⟨rfl, fun b j x1 x2 x3 x4 x5 x6 => by rw [pI_si, if_neg (fun z => x4 ⟨z.1, by omega⟩), pI_si, if_neg (fun z => x3 ⟨z.1, by omega⟩), pI_si, if_neg (fun z => x5 z)]⟩
    have v54 : ∀ j, am_I g' 54 j = if j = 4 * s + made % 4 then nI a else am_I g 54 j := fun j => by
      rw [b6, pI_si_ne _ _ _ (by decide), pI_si]
      by_cases z : j = 4 * s + made % 4
      · rw [if_pos ⟨rfl, z⟩, if_pos z]
      · rw [if_neg (fun w => z w.2), if_neg z, pI_si_ne _ _ _ (by decide)]
    have v55 : ∀ j, j ≠ 4 * s + made % 4 → am_I g' 55 j = am_I g 55 j := fun j hj => by rw [b8 j hj, pe_ik hj, pe_ine (by decide), pe_ine (by decide)]
    have v57 : ∀ j, ¬ (48 * (4 * s + made % 4) ≤ j ∧ j < 48 * (4 * s + made % 4) + 48) → am_I g' 57 j = am_I g 57 j := fun j hj => by rw [b9 j hj, k 57 (by decide) (by decide) (by decide)]
    have v56 : ∀ j, am_I g' 56 j = if j = s then nI (made + 1) else am_I g 56 j := fun j => by
      rw [b7, pI_si_ne _ _ _ (by decide), pI_si_ne _ _ _ (by decide), pI_si]
      by_cases z : j = s
      · rw [if_pos ⟨rfl, z⟩, if_pos z]
      · rw [if_neg (fun w => z w.2), if_neg z]
    have cv : ColV O op SH g' s (4 * s + made % 4) a := ⟨by rw [v54, if_pos rfl], b4, b5⟩
    refine ⟨made % 4, g', h4, ?_, f1.tr b2, b3, fun t ht => ?_, cv⟩
    · refine Eq.trans hk ?_
      rw [hmd, e12, pu_let, pe_gd (show s < 6 from hs) (by decide), pe_gd (show s < 6 from hs) (by decide), pu_let, m1, show nI made + (1 : Int32) = nI (made + 1) from nI_add made 1, pe_gd (show 4 * s + made % 4 < 24 by omega) (by decide), pu_let, pe_gd (show 4 * s + made % 4 < 24 by omega) (by decide), pu_let, pe_clamp (show 4 * s + made % 4 < 2147483648 by omega)]
      exact b1
    · obtain ⟨md, w1, w2, w3⟩ := hC t ht
      by_cases z : t = s
      · subst z
        have emd : md = made := (nn_eq (by omega) (by omega)).mp (w1.symm.trans m1)
        subst emd
        refine ⟨md + 1, by rw [v56, if_pos rfl], by omega, fun i h1 h2 => ?_⟩
        by_cases y : i = md % 4
        · subst y; exact ⟨a, ha, cv⟩
        · obtain ⟨a', ha', u1, u2, u3⟩ := w3 i h1 (by
            by_cases x : i < md
            · exact x
            · exfalso
              have : i = md := by omega
              rw [this, Nat.mod_eq_of_lt (by omega)] at y
              exact y rfl)
          exact ⟨a', ha', by rw [v54, if_neg (by omega)]; exact u1, fun o h5 h6 => by rw [v57 _ (by omega)]; exact u2 o h5 h6, by rw [v55 _ (by omega)]; exact u3⟩
      · refine ⟨md, by rw [v56, if_neg z]; exact w1, by omega, fun i h1 h2 => ?_⟩
        obtain ⟨a', ha', u1, u2, u3⟩ := w3 i h1 h2
        exact ⟨a', ha', by rw [v54, if_neg (by omega)]; exact u1, fun o h5 h6 => by rw [v57 _ (by omega)]; exact u2 o h5 h6, by rw [v55 _ (by omega)]; exact u3⟩
end COL

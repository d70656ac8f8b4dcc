/-! ===== bring: a level of the class's search ===== -/
section LVL
variable {q : Option pLw} {ρ0 : Row} {O pl tg : Nat} {op : Nat → Bool} {SH : Nat → Nat → Nat → Nat} {hd bl : Nat → Nat} {gg ld : Nat → Bool}
/-- snow and strain of level v -/
def LvX (C v : Nat) (g : am_G) (X : Xst) : Prop := ∀ s, s < 6 → am_I g 58 (6 * v + s) = nI (X.1 s) ∧ X.1 s ≤ 9999 ∧ am_I g 59 (6 * v + s) = nI (X.2 s) ∧ X.2 s ≤ C
/-- the columns of level v, up to slope n -/
def LkX (O : Nat) (op : Nat → Bool) (SH : Nat → Nat → Nat → Nat) (v : Nat) (g : am_G) (X : Xst) (n : Nat) : Prop := ∀ s, s < n → ∃ i, i < 4 ∧ am_I g 60 (6 * v + s) = nI (4 * s + i) ∧ ColV O op SH g s (4 * s + i) (X.1 s)
/-- what is fixed in a search -/
def FxC (tg : Nat) (hd bl : Nat → Nat) (gg ld : Nat → Bool) (g : am_G) : Prop := am_I g 51 13 = nI tg ∧ ∀ s, s < 6 → hd s ≤ 9999 ∧ am_I g 8 s = nI (hd s) ∧ (bl s < 6 → s < bl s ∧ am_I g 9 s = nI (bl s)) ∧ (¬ bl s < 6 → am_I g 9 s = -1) ∧ (gg s = true ↔ am_I g 10 s = nI 1) ∧ am_I g 53 s = (if ld s = true then nI 1 else nI 0)
theorem FxC.cg {g g' : am_G} (h : FxC tg hd bl gg ld g) (f : FcB g g') (h51 : am_I g' 51 = am_I g 51) (h53 : am_I g' 53 = am_I g 53) : FxC tg hd bl gg ld g' := by
  unfold FxC at h ⊢
  rw [h51, h53, f.2 8 (by decide) (by decide) (by omega), f.2 9 (by decide) (by decide) (by omega), f.2 10 (by decide) (by decide) (by omega)]
  exact h
theorem ColV.cg {g g' : am_G} {s ci a : Nat} (h : ColV O op SH g s ci a) (h54 : am_I g' 54 ci = am_I g 54 ci) (h55 : am_I g' 55 ci = am_I g 55 ci) (h57 : ∀ o, o < O → am_I g' 57 (48 * ci + o) = am_I g 57 (48 * ci + o)) : ColV O op SH g' s ci a := by
  obtain ⟨a1, a2, a3⟩ := h
  exact ⟨by rw [h54]; exact a1, fun o ho hop => by rw [h57 o ho]; exact a2 o ho hop, by rw [h55]; exact a3⟩
theorem lkUp {C v : Nat} {X : Xst} (hv : v < 3) (hO : O ≤ 48) (hpl : pl < 4) (hV : okV ρ0) (hSH : ShF q ρ0 pl SH) : ∀ (e s m M : Nat) (g : am_G), s + e = 6 → e < m → M + e < 2147483647 → OpC O pl op g → BFc q ρ0 g → CacV O op SH M g → LvX C v g X → LkX O op SH v g X s → ∃ g', fX1_lookUp_L5 (nI v) m (nI (6 * v + s)) g = some ((), g') ∧ (g'.2 = g.2 ∧ ∀ a j, a ≠ 37 → a ≠ 38 → ¬ (54 ≤ a ∧ a ≤ 57) → ¬ (a = 60 ∧ 6 * v ≤ j ∧ j < 6 * v + 6) → am_I g' a j = am_I g a j) ∧ BFc q ρ0 g' ∧ CacV O op SH (M + e) g' ∧ LkX O op SH v g' X 6
  | 0, s, m, M, g, he, hm, hM, hO1, hB, hC, hL, hK => by
    obtain ⟨m, rfl⟩ : ∃ m', m = m' + 1 := ⟨m - 1, by omega⟩
    obtain rfl : s = 6 := by omega
    refine ⟨g, ?_, ⟨rfl, fun _ _ _ _ _ _ => rfl⟩, hB, hC, hK⟩
    have ei : nI v * (6 : Int32) + (6 : Int32) = nI (6 * v + 6) := i6 v 6
    rw [fX1_lookUp_L5, ei, if_pos Int32.le_rfl]
  | e + 1, s, m, M, g, he, hm, hM, hO1, hB, hC, hL, hK => by
    obtain ⟨m, rfl⟩ : ∃ m', m = m' + 1 := ⟨m - 1, by omega⟩
    have hs : s < 6 := by omega
    have ei : nI v * (6 : Int32) + (6 : Int32) = nI (6 * v + 6) := i6 v 6
    have ev : nI (6 * v + s) - nI v * (6 : Int32) = nI s := by
      rw [show nI v * (6 : Int32) = nI (6 * v) by rw [show (6 : Int32) = nI 6 from rfl, nn_mul, Nat.mul_comm], pe_sub (by omega)]
      congr 1
      omega
    obtain ⟨x1, x2, x3, x4⟩ := hL s hs
    obtain ⟨i, g1, i1, c1, c2, c3, c4, c5⟩ := q1_columnOf (q := q) (ρ0 := ρ0) (O := O) (pl := pl) (op := op) (SH := SH) (s := s) (a := X.1 s) (M := M) (g := g) hO hpl hs x2 (by omega) hV hSH hO1 hB hC
    have kk : ∀ a, a ≠ 60 → am_I (am_si g1 60 (6 * v + s) (nI (4 * s + i))) a = am_I g1 a := fun a ha => pI_si_ne _ _ _ ha
    have f1 : FcB g1 (am_si g1 60 (6 * v + s) (nI (4 * s + i))) := (FcB.rf g1).si (by decide) _ _
    have hC1 : CacV O op SH (M + 1) (am_si g1 60 (6 * v + s) (nI (4 * s + i))) := fun t ht => by
      obtain ⟨md, w1, w2, w3⟩ := c4 t ht
      refine ⟨md, by rw [kk 56 (by decide)]; exact w1, w2, fun i' h1 h2 => ?_⟩
      obtain ⟨a', ha', u⟩ := w3 i' h1 h2
      exact ⟨a', ha', u.cg (by rw [kk 54 (by decide)]) (by rw [kk 55 (by decide)]) (fun o _ => by rw [kk 57 (by decide)])⟩
    have hL1 : LvX C v (am_si g1 60 (6 * v + s) (nI (4 * s + i))) X := fun t ht => by
      rw [kk 58 (by decide), kk 59 (by decide), c2.2 58 _ (by decide) (by decide) (by omega) (by omega) (by omega) (by omega), c2.2 59 _ (by decide) (by decide) (by omega) (by omega) (by omega) (by omega)]
      exact hL t ht
    have hK1 : LkX O op SH v (am_si g1 60 (6 * v + s) (nI (4 * s + i))) X (s + 1) := fun t ht => by
      by_cases z : t = s
      · subst z
        exact ⟨i, i1, pe_ieq _ _ _ _, c5.cg (by rw [kk 54 (by decide)]) (by rw [kk 55 (by decide)]) (fun o _ => by rw [kk 57 (by decide)])⟩
      · obtain ⟨i', y1, y2, y3⟩ := hK t (by omega)
        refine ⟨i', y1, by rw [pe_ik (by omega), c2.2 60 _ (by decide) (by decide) (by omega) (by omega) (by omega) (by omega)]; exact y2, y3.cg ?_ ?_ fun o ho => ?_⟩
        · rw [kk 54 (by decide), c2.2 54 _ (by decide) (by decide) (by omega) (by omega) (by omega) (by omega)]
        · rw [kk 55 (by decide), c2.2 55 _ (by decide) (by decide) (by omega) (by omega) (by omega) (by omega)]
        · rw [kk 57 (by decide), c2.2 57 _ (by decide) (by decide) (by omega) (by omega) (by omega) (by omega)]
    have hO2 : OpC O pl op (am_si g1 60 (6 * v + s) (nI (4 * s + i))) := hO1.cg (by rw [kk 51 (by decide)]; exact funext fun j => c2.2 51 j (by decide) (by decide) (by omega) (by omega) (by omega) (by omega)) (by rw [kk 52 (by decide)]; exact funext fun j => c2.2 52 j (by decide) (by decide) (by omega) (by omega) (by omega) (by omega))
    obtain ⟨g', d1, d2, d3, d4, d5⟩ := lkUp (C := C) hv hO hpl hV hSH e (s + 1) m (M + 1) _ (by omega) (by omega) (by omega) hO2 (c3.fb f1 (by rw [kk 37 (by decide)]) (by rw [kk 37 (by decide)])) hC1 hL1 hK1
    refine ⟨g', ?_, ⟨d2.1.trans c2.1, fun a j y1 y2 y3 y4 => ?_⟩, d3, by rw [show M + (e + 1) = M + 1 + e by omega]; exact d4, d5⟩
    · rw [fX1_lookUp_L5, ei, if_neg (fun z => absurd ((nI_leI (by omega) (by omega)).mp z) (by omega)), pe_gd (show 6 * v + s < 24 by omega) (by decide), ev, pe_clamp (show 6 * v + s < 2147483648 by omega), x1, c1, pu_bd, pe_gd (show 6 * v + s < 18 by omega) (by decide), pu_let, pu_let, show nI (6 * v + s) + (1 : Int32) = nI (6 * v + (s + 1)) from nI_add _ 1]
      exact d1
    · rw [d2.2 a j y1 y2 y3 y4, pI_si, if_neg (fun z => y4 ⟨z.1, by omega⟩), c2.2 a j y1 y2 (by omega) (by omega) (by omega) (by omega)]
theorem q1_lookUp {C v M : Nat} {X : Xst} {g : am_G} (hv : v < 3) (hO : O ≤ 48) (hpl : pl < 4) (hV : okV ρ0) (hSH : ShF q ρ0 pl SH) (hM : M + 6 < 2147483647) (hO1 : OpC O pl op g) (hB : BFc q ρ0 g) (hC : CacV O op SH M g) (hL : LvX C v g X) : ∃ g', fX1_lookUp (nI v) g = some ((), g') ∧ (g'.2 = g.2 ∧ ∀ a j, a ≠ 37 → a ≠ 38 → ¬ (54 ≤ a ∧ a ≤ 57) → ¬ (a = 60 ∧ 6 * v ≤ j ∧ j < 6 * v + 6) → am_I g' a j = am_I g a j) ∧ BFc q ρ0 g' ∧ CacV O op SH (M + 6) g' ∧ LkX O op SH v g' X 6 := by
  have hfu : am_fu = 1048576 := rfl
  obtain ⟨g', d1, d2⟩ := lkUp (C := C) (X := X) hv hO hpl hV hSH 6 0 am_fu M g (by omega) (by omega) hM hO1 hB hC hL (fun s hs => absurd hs (by omega))
  refine ⟨g', ?_, d2⟩
  unfold fX1_lookUp
  rw [pu_let, show nI v * (6 : Int32) = nI (6 * v + 0) by rw [show (6 : Int32) = nI 6 from rfl, nn_mul, Nat.mul_comm, Nat.add_zero]]
  exact d1
theorem reachL {C v d : Nat} {X : Xst} {g : am_G} (hC : C ≤ 1500000000) (hv : v < 3) (hd3 : d ≤ 3) (hSH1 : ∀ o s a, SH o s a ≤ 999) (hF : FxC tg hd bl gg ld g) (hL : LvX C v g X) (hK : LkX O op SH v g X 6) : ∀ (e s m : Nat), s + e = 6 → e < m → (∀ t, t < s → ld t = true → ¬ (0 < X.1 t ∧ hd t < X.1 t + X.2 t + d * mxF op SH t (X.1 t) O)) → (fX1_canReach_L2 (nI v) (nI d) m (nI s) g = some (nI 1, g)) ∨ (fX1_canReach_L2 (nI v) (nI d) m (nI s) g = some (nI 0, g) ∧ ∀ t, t < 6 → ld t = true → ¬ (0 < X.1 t ∧ hd t < X.1 t + X.2 t + d * mxF op SH t (X.1 t) O))
  | 0, s, m, he, hm, hs => by
    obtain ⟨m, rfl⟩ : ∃ m', m = m' + 1 := ⟨m - 1, by omega⟩
    obtain rfl : s = 6 := by omega
    right
    refine ⟨?_, hs⟩
    rw [fX1_canReach_L2, if_pos (show (6 : Int32) ≤ nI 6 by decide)]
    rfl
  | e + 1, s, m, he, hm, hs => by
    obtain ⟨m, rfl⟩ : ∃ m', m = m' + 1 := ⟨m - 1, by omega⟩
    have hs6 : s < 6 := by omega
    obtain ⟨x1, x2, x3, x4⟩ := hL s hs6
    obtain ⟨i, i1, i2, u1, u2, u3⟩ := hK s hs6
    obtain ⟨f1, f2, -, -, -, f6⟩ := hF.2 s hs6
    have hmx := mxF_le (op := op) (s := s) (a := X.1 s) (fun o => hSH1 o s (X.1 s)) O
    have hmul : d * mxF op SH s (X.1 s) O ≤ 3 * 999 := Nat.mul_le_mul hd3 hmx
    have next : (∀ t, t < s + 1 → ld t = true → ¬ (0 < X.1 t ∧ hd t < X.1 t + X.2 t + d * mxF op SH t (X.1 t) O)) → (fX1_canReach_L2 (nI v) (nI d) m (nI s + (1 : Int32)) g = some (nI 1, g)) ∨ (fX1_canReach_L2 (nI v) (nI d) m (nI s + (1 : Int32)) g = some (nI 0, g) ∧ ∀ t, t < 6 → ld t = true → ¬ (0 < X.1 t ∧ hd t < X.1 t + X.2 t + d * mxF op SH t (X.1 t) O)) := fun hs' => by
      rw [show nI s + (1 : Int32) = nI (s + 1) from nI_add s 1]
      exact reachL hC hv hd3 hSH1 hF hL hK e (s + 1) m (by omega) (by omega) hs'
    have ext : ¬ (ld s = true ∧ 0 < X.1 s ∧ hd s < X.1 s + X.2 s + d * mxF op SH s (X.1 s) O) → ∀ t, t < s + 1 → ld t = true → ¬ (0 < X.1 t ∧ hd t < X.1 t + X.2 t + d * mxF op SH t (X.1 t) O) := fun h t ht hl z => by
      by_cases y : t = s
      · subst y; exact h ⟨hl, z⟩
      · exact hs t (by omega) hl z
    rw [fX1_canReach_L2, if_neg (show ¬ (6 : Int32) ≤ nI s from fun z => absurd ((nI_leI (a := 6) (by decide) (by omega)).mp z) (by omega)), i6, pu_let, pe_gd (show 6 * v + s < 24 by omega) (by decide), pe_gd (show 6 * v + s < 24 by omega) (by decide), pe_gd (show 6 * v + s < 18 by omega) (by decide), pe_clamp (show 6 * v + s < 2147483648 by omega), i2, pe_gd (show 4 * s + i < 24 by omega) (by decide), pe_clamp (show 4 * s + i < 2147483648 by omega), x1, x3, u3, pu_let, pe_gd (show s < 6 from hs6) (by decide), pu_jn]
    dsimp only
    rw [pe_clamp (show s < 2147483648 by omega), f6, f2]
    by_cases hl : ld s = true
    · rw [if_pos hl, if_neg (show ¬ nI 1 = (0 : Int32) by decide), pe_gd (show 6 * v + s < 24 by omega) (by decide)]
      by_cases h0 : 0 < X.1 s
      · rw [if_neg (show ¬ nI (X.1 s) ≤ (0 : Int32) from fun z => absurd ((nI_leI (b := 0) (by omega) (by decide)).mp z) (by omega)), pe_gd (show s < 6 from hs6) (by decide), nI_add, nn_mul, nI_add]
        by_cases h1 : hd s < X.1 s + X.2 s + d * mxF op SH s (X.1 s) O
        · rw [if_neg (fun z => absurd ((nI_leI (by omega) (by omega)).mp z) (by omega))]
          exact Or.inl rfl
        · rw [if_pos ((nI_leI (by omega) (by omega)).mpr (by omega)), pu_let]
          exact next (ext fun z => h1 z.2.2)
      · rw [if_pos (show nI (X.1 s) ≤ (0 : Int32) from (nI_leI (b := 0) (by omega) (by decide)).mpr (by omega)), pu_let]
        exact next (ext fun z => h0 z.2.1)
    · rw [if_neg hl, if_pos (show nI 0 = (0 : Int32) from rfl), pu_let]
      exact next (ext fun z => hl z.1)
theorem stirL {C v o : Nat} {X : Xst} {g : am_G} (hC : C ≤ 1500000000) (hv : v < 3) (ho : o < O) (hO : O ≤ 48) (hop : op o = true) (hSH1 : ∀ o s a, SH o s a ≤ 999) (hF : FxC tg hd bl gg ld g) (hL : LvX C v g X) (hK : LkX O op SH v g X 6) : ∀ (e s m : Nat), s + e = 6 → e < m → (∀ t, t < s → ld t = true → ¬ (0 < X.1 t ∧ hd t < X.1 t + X.2 t + SH o t (X.1 t))) → (fX1_stirs_L2 (nI v) (nI o) m (nI s) g = some (nI 1, g)) ∨ (fX1_stirs_L2 (nI v) (nI o) m (nI s) g = some (nI 0, g) ∧ ∀ t, t < 6 → ld t = true → ¬ (0 < X.1 t ∧ hd t < X.1 t + X.2 t + SH o t (X.1 t)))
  | 0, s, m, he, hm, hs => by
    obtain ⟨m, rfl⟩ : ∃ m', m = m' + 1 := ⟨m - 1, by omega⟩
    obtain rfl : s = 6 := by omega
    right
    refine ⟨?_, hs⟩
    rw [fX1_stirs_L2, if_pos (show (6 : Int32) ≤ nI 6 by decide)]
    rfl
  | e + 1, s, m, he, hm, hs => by
    obtain ⟨m, rfl⟩ : ∃ m', m = m' + 1 := ⟨m - 1, by omega⟩
    have hs6 : s < 6 := by omega
    obtain ⟨x1, x2, x3, x4⟩ := hL s hs6
    obtain ⟨i, i1, i2, u1, u2, u3⟩ := hK s hs6
    obtain ⟨f1, f2, -, -, -, f6⟩ := hF.2 s hs6
    have hmx := hSH1 o s (X.1 s)
    have u2o := u2 o ho hop
    have next : (∀ t, t < s + 1 → ld t = true → ¬ (0 < X.1 t ∧ hd t < X.1 t + X.2 t + SH o t (X.1 t))) → (fX1_stirs_L2 (nI v) (nI o) m (nI s + (1 : Int32)) g = some (nI 1, g)) ∨ (fX1_stirs_L2 (nI v) (nI o) m (nI s + (1 : Int32)) g = some (nI 0, g) ∧ ∀ t, t < 6 → ld t = true → ¬ (0 < X.1 t ∧ hd t < X.1 t + X.2 t + SH o t (X.1 t))) := fun hs' => by
      rw [show nI s + (1 : Int32) = nI (s + 1) from nI_add s 1]
      exact stirL hC hv ho hO hop hSH1 hF hL hK e (s + 1) m (by omega) (by omega) hs'
    have ext : ¬ (ld s = true ∧ 0 < X.1 s ∧ hd s < X.1 s + X.2 s + SH o s (X.1 s)) → ∀ t, t < s + 1 → ld t = true → ¬ (0 < X.1 t ∧ hd t < X.1 t + X.2 t + SH o t (X.1 t)) := fun h t ht hl z => by
      by_cases y : t = s
      · subst y; exact h ⟨hl, z⟩
      · exact hs t (by omega) hl z
    have e48 : nI (4 * s + i) * (48 : Int32) + nI o = nI (48 * (4 * s + i) + o) := by rw [show (48 : Int32) = nI 48 from rfl, nn_mul, nI_add, Nat.mul_comm]
    rw [fX1_stirs_L2, if_neg (show ¬ (6 : Int32) ≤ nI s from fun z => absurd ((nI_leI (a := 6) (by decide) (by omega)).mp z) (by omega)), i6, pu_let, pe_gd (show 6 * v + s < 24 by omega) (by decide), pe_gd (show 6 * v + s < 24 by omega) (by decide), pe_gd (show 6 * v + s < 18 by omega) (by decide), pe_clamp (show 6 * v + s < 2147483648 by omega), i2, e48, pe_gd (show 48 * (4 * s + i) + o < 1152 by omega) (by decide), pe_clamp (show 48 * (4 * s + i) + o < 2147483648 by omega), x1, x3, u2o, pu_let, pe_gd (show s < 6 from hs6) (by decide), pu_jn]
    dsimp only
    rw [pe_clamp (show s < 2147483648 by omega), f6, f2]
    by_cases hl : ld s = true
    · rw [if_pos hl, if_neg (show ¬ nI 1 = (0 : Int32) by decide), pe_gd (show 6 * v + s < 24 by omega) (by decide)]
      by_cases h0 : 0 < X.1 s
      · rw [if_neg (show ¬ nI (X.1 s) ≤ (0 : Int32) from fun z => absurd ((nI_leI (b := 0) (by omega) (by decide)).mp z) (by omega)), pe_gd (show s < 6 from hs6) (by decide), nI_add, nI_add]
        by_cases h1 : hd s < X.1 s + X.2 s + SH o s (X.1 s)
        · rw [if_neg (fun z => absurd ((nI_leI (by omega) (by omega)).mp z) (by omega))]
          exact Or.inl rfl
        · rw [if_pos ((nI_leI (by omega) (by omega)).mpr (by omega)), pu_let]
          exact next (ext fun z => h1 z.2.2)
      · rw [if_pos (show nI (X.1 s) ≤ (0 : Int32) from (nI_leI (b := 0) (by omega) (by decide)).mpr (by omega)), pu_let]
        exact next (ext fun z => h0 z.2.1)
    · rw [if_neg hl, if_pos (show nI 0 = (0 : Int32) from rfl), pu_let]
      exact next (ext fun z => hl z.1)
end LVL

/-! ===== one clause of talks ===== -/
section TCC
variable {b : Nat → Nat} {len : Nat}
def TdC (i : Nat) (sy : Prop) (D : Nat → pD) (t : Nat) (To : Option pD) (u : Nat) (X : Cd) (gc gr : am_G) : Prop :=
  (sy → ∀ j, j < 3 → ∃ a f l, a < 512 ∧ am_I gc 34 (6 * i + 1 + j) = nI a ∧ VC (am_I gc 35) u a (D j) ∧ am_I gr 33 (10 * i + 1 + 2 * j) = nI f ∧ am_I gr 33 (10 * i + 2 + 2 * j) = nI l ∧ VR true X f l (D j)) ∧ (1 ≤ t ∧ t ≤ 20 ∧ am_I gc 34 (6 * i + 5) = nI t ∧ am_I gr 33 (10 * i + 9) = nI t) ∧ (∀ T, To = some T → dT T ∧ ∃ a f l, a < 512 ∧ am_I gc 34 (6 * i + 4) = nI a ∧ VC (am_I gc 35) u a T ∧ am_I gr 33 (10 * i + 7) = nI f ∧ am_I gr 33 (10 * i + 8) = nI l ∧ VR true X f l T) ∧ (To = none → am_I gc 34 (6 * i + 4) = -1 ∧ am_I gr 33 (10 * i + 8) = am_I gr 33 (10 * i + 7))
theorem TdC.mono {i : Nat} {sy : Prop} {D : Nat → pD} {t : Nat} {To : Option pD} {u u' : Nat} {X X' : Cd} {gc gr gc' gr' : am_G} (h : TdC i sy D t To u X gc gr) (hu : u ≤ u') (hX : pfx X X') (h35 : ∀ i, i < u → am_I gc' 35 i = am_I gc 35 i) (h34 : ∀ k, k < 6 * i + 6 → am_I gc' 34 k = am_I gc 34 k) (h33 : ∀ k, k < 10 * i + 10 → am_I gr' 33 k = am_I gr 33 k) : TdC i sy D t To u' X' gc' gr' := by
  obtain ⟨a1, a2, a3, a4⟩ := h
  refine ⟨fun z j hj => ?_, ⟨a2.1, a2.2.1, by rw [h34 _ (by omega)]; exact a2.2.2.1, by rw [h33 _ (by omega)]; exact a2.2.2.2⟩, fun T hT => ?_, fun z => ?_⟩
  · obtain ⟨a, f, l, x0, x1, x2, x3, x4, x5⟩ := a1 z j hj
    exact ⟨a, f, l, x0, by rw [h34 _ (by omega)]; exact x1, x2.mono hu h35, by rw [h33 _ (by omega)]; exact x3, by rw [h33 _ (by omega)]; exact x4, x5.mono hX⟩
  · obtain ⟨d, a, f, l, x0, x1, x2, x3, x4, x5⟩ := a3 T hT
    exact ⟨d, a, f, l, x0, by rw [h34 _ (by omega)]; exact x1, x2.mono hu h35, by rw [h33 _ (by omega)]; exact x3, by rw [h33 _ (by omega)]; exact x4, x5.mono hX⟩
  · rw [h34 _ (by omega), h33 _ (by omega), h33 _ (by omega)]
    exact a4 z
abbrev pTk := Nat × (Nat → pD) × Nat × Option pD
def TdI (n : Nat) (c : Nat → pTk) (u : Nat) (X : Cd) (gc gr : am_G) : Prop := ∀ i, i < n → (c i).1 < 2 ∧ am_I gc 34 (6 * i) = nI (5 + (c i).1) ∧ am_I gr 33 (10 * i) = nI (c i).1 ∧ TdC i ((c i).1 = 0) (c i).2.1 (c i).2.2.1 (c i).2.2.2 u X gc gr
theorem TdI.mono {n u u' : Nat} {c c' : Nat → pTk} {X X' : Cd} {gc gr gc' gr' : am_G} (h : TdI n c u X gc gr) (hc : ∀ i, i < n → c' i = c i) (hu : u ≤ u') (hX : pfx X X') (h35 : ∀ i, i < u → am_I gc' 35 i = am_I gc 35 i) (h34 : ∀ k, k < 6 * n → am_I gc' 34 k = am_I gc 34 k) (h33 : ∀ k, k < 10 * n → am_I gr' 33 k = am_I gr 33 k) : TdI n c' u' X' gc' gr' := by
  intro i hi
  obtain ⟨a1, a2, a3, a4⟩ := h i hi
  rw [hc i hi, h34 _ (by omega), h33 _ (by omega)]
  exact ⟨a1, a2, a3, a4.mono hu hX h35 (fun k hk => h34 k (by omega)) (fun k hk => h33 k (by omega))⟩
/-- what a clause leaves behind its head -/
def ZU (b : Nat → Nat) (len : Nat) (Rc' : Option (Int32 × am_G)) (Rr : Option (Unit × am_G)) (sy : Prop) (n h u : Nat) (X : Cd) (gc gr : am_G) : Prop :=
  ∃ h' u' p' X' D t To gc' gr', Rc' = some (nI 1, gc') ∧ Rr = some ((), gr') ∧ FcQ gc gc' ∧ FrQ gr gr' ∧ CS true b len h' u' p' 0 gc' ∧ RQ true b len h' X' p' gr' ∧ am_I gr' 0 21 = am_I gr 0 21 ∧ X'.2.2 + 1 ≤ h' ∧ u ≤ u' ∧ u' ≤ h' ∧ p' ≤ 50 ∧ h ≤ h' ∧ pfx X X' ∧ (∀ i, i < u → am_I gc' 35 i = am_I gc 35 i) ∧ (∀ k, k < 6 * n + 1 → am_I gc' 34 k = am_I gc 34 k) ∧ (∀ k, k < 10 * n + 1 → am_I gr' 33 k = am_I gr 33 k) ∧ TdC n sy D t To u' X' gc' gr'
/-- the tail alone -/
theorem tailU (hT : Tp b len) {n h1 u1 : Nat} {X1 : Cd} {gc gr : am_G} {Rc' : Option (Int32 × am_G)} {Rr : Option (Unit × am_G)} {sy : Prop} {D : Nat → pD} (hu : u1 < 512) (hs : sy → ∀ j, j < 3 → ∃ a f l, a < 512 ∧ am_I gc 34 (6 * n + 1 + j) = nI a ∧ VC (am_I gc 35) u1 a (D j) ∧ am_I gr 33 (10 * n + 1 + 2 * j) = nI f ∧ am_I gr 33 (10 * n + 2 + 2 * j) = nI l ∧ VR true X1 f l (D j)) (H : tdTl b len Rc' Rr n h1 u1 X1 gc gr) : ZU b len Rc' Rr sy n h1 u1 X1 gc gr := by
  obtain ⟨h', u', p', X', To, x, t, gc', gr', z1, z2, z3, z4, z5, z6, z7, z8, z9, z10, z11, z12, z13, z14, z15, z16, z17, z18, z19⟩ := H
  refine ⟨h', u', p', X', D, t, To, gc', gr', z1, z2, z3, z4, z5, z6, z7, z8, z9, z10, z11, z12, z13, z14, fun k hk => by rw [z15, am_up_at (by omega), am_up_at (by omega)], fun k hk => by rw [z16, am_up_at (by omega), am_up_at (by omega), am_up_at (by omega)], ?_, ⟨z18, z19, by rw [z15, am_up_at (by omega), am_up_eq], by rw [z16, am_up_at (by omega), am_up_at (by omega), am_up_eq]⟩, fun T hT' => ?_, fun hn' => ?_⟩
  · intro z j hj
    obtain ⟨a, f, l, x0, x1, x2, x3, x4, x5⟩ := hs z j hj
    exact ⟨a, f, l, x0, by rw [z15, am_up_at (by omega), am_up_at (by omega)]; exact x1, x2.mono z9 z14, by rw [z16, am_up_at (by omega), am_up_at (by omega), am_up_at (by omega)]; exact x3, by rw [z16, am_up_at (by omega), am_up_at (by omega), am_up_at (by omega)]; exact x4, x5.mono z13⟩
  · rcases z17 with ⟨q1, -, -⟩ | ⟨T', q1, q2, q3, q4, q5, q6⟩
    · rw [q1] at hT'; cases hT'
    · rw [q1] at hT'
      cases hT'
      exact ⟨q5, u1, X1.2.2, X'.2.2, hu, by rw [z15, am_up_eq]; exact q2, q3, by rw [z16, am_up_at (by omega), am_up_eq], by rw [z16, am_up_eq], q4⟩
  · rcases z17 with ⟨q1, q2, q3⟩ | ⟨T', q1, -⟩
    · exact ⟨by rw [z15, am_up_eq]; exact q2, by rw [z16, am_up_eq, am_up_at (by omega), am_up_eq, q3]⟩
    · rw [hn'] at q1; cases q1
def TC3 (n : Nat) (g : am_G) : Option (Int32 × am_G) := am_bd (fX5_pass (nI 13) g) fun v g' => if v = 0 then RC12 (nI n) (nI 0) g' else am_bd (fX5_keepSum (nI n) (nI 2) g') fun v2 g2 => if v2 = 0 then RC12 (nI n) (nI 0) g2 else RC12 (nI n) (nI 1) g2
def TC2 (n : Nat) (g : am_G) : Option (Int32 × am_G) := am_bd (fX5_pass (nI 11) g) fun v g' => if v = 0 then RC12 (nI n) (nI 0) g' else am_bd (fX5_keepSum (nI n) (nI 1) g') fun v2 g2 => if v2 = 0 then RC12 (nI n) (nI 0) g2 else TC3 n g2
def TC1 (n : Nat) (g : am_G) : Option (Int32 × am_G) := am_bd (fX5_keepSum (nI n) (nI 0) g) fun v g' => if v = 0 then RC12 (nI n) (nI 0) g' else TC2 n g'
theorem pk {P : Option (Int32 × am_G)} {Q K0 K1 : am_G → Option (Int32 × am_G)} {v : Int32} {g' : am_G} (h : (am_bd P fun v g => if v = 0 then some (nI 0, g) else Q g) = some (v, g')) : (am_bd P fun v g => if v = 0 then K0 g else am_bd (Q g) fun v2 g2 => if v2 = 0 then K0 g2 else K1 g2) = if v = 0 then K0 g' else K1 g' := by
  cases P with
  | none =>
    have h2 : (none : Option (Int32 × am_G)) = some (v, g') := h
    cases h2
  | some q =>
    obtain ⟨w, g⟩ := q
    rw [pu_bd] at h ⊢
    by_cases hw : w = 0
    · rw [if_pos hw] at h ⊢
      cases h
      rw [if_pos (show nI 0 = (0 : Int32) from rfl)]
    · rw [if_neg hw] at h ⊢
      rw [h, pu_bd]
/-- say: three sums and the tail -/
def TRs (n : Nat) (g : am_G) : Option (Unit × am_G) := am_bd (fX12_readSum (nI (10 * n + 1)) g) fun _ g60 => am_bd (fX12_readBehind (nI (10 * n + 3)) (52 : Int64) g60) fun _ g63 => am_bd (fX12_readBehind (nI (10 * n + 5)) (409252 : Int64) g63) fun _ g66 => RT22 (nI (10 * n)) g66
theorem sayU (hT : Tp b len) {n h u p : Nat} {X : Cd} {gc gr : am_G} (hn : n < 12) (hc : CS true b len h u p 0 gc) (hq : RQ true b len h X p gr) (hX : X.2.2 + 1 ≤ h) (hu : u + 1 ≤ h) (hp : p ≤ 50) : ZF b len (TC1 n gc) (TRs n gr) gc gr ∨ ZU b len (TC1 n gc) (TRs n gr) True n h u X gc gr := by
  rcases tSum hT hn (j := 0) (a := 10 * n + 1) (by decide) (by omega) hc hq hX hu hp with ⟨h', gc', gr', z1, z2, z3, z4, z5, z6, z7⟩ | ⟨h1, u1, p1, D1, gc1, gr1, X1, z1, z2, z3, z4, z5, z6, z7, z8, z9, z10, z11, z12, z13, z14, z15, z16, z17, z18⟩
  · left
    obtain ⟨gr2, t1, t2, t3⟩ := rb_bad (a := 10 * n + 3) (by omega) 52 z6
    obtain ⟨gr3, t4, t5, t6⟩ := rb_bad (a := 10 * n + 5) (by omega) 409252 t2
    obtain ⟨gr4, t7, t8, t9⟩ := RT22_bad hn t5
    refine ⟨h', gc', gr4, ?_, z2, z3, z4, ?_, t8, z7.tr (t3.tr (t6.tr t9))⟩
    · unfold TC1
      rw [z1, pu_bd, if_pos (show nI 0 = (0 : Int32) from rfl), RC12_0]
    · unfold TRs
      rw [z5, pu_bd, t1, pu_bd, t4, pu_bd, t7]
  have eC1 : TC1 n gc = TC2 n gc1 := by
    unfold TC1
    rw [z1, pu_bd, if_neg (show ¬ nI 1 = (0 : Int32) by decide)]
  have eR1 : TRs n gr = (am_bd (fX12_readBehind (nI (10 * n + 3)) (52 : Int64) gr1) fun _ g63 => am_bd (fX12_readBehind (nI (10 * n + 5)) (409252 : Int64) g63) fun _ g66 => RT22 (nI (10 * n)) g66) := by
    unfold TRs
    rw [z2, pu_bd]
  rw [eC1, eR1]
  rcases tBeh hT hn (j := 1) (a := 10 * n + 3) (w := 11) (by decide) (by omega) (by decide) (by decide) z5 z6 z11 z10 z12 with ⟨h', gc', gr', y1, y2, y3, y4, y5, y6, y7⟩ | ⟨h2, u2, p2, D2, gc2, gr2, X2, y1, y2, y3, y4, y5, y6, y7, y8, y9, y10, y11, y12, y13, y14, y15, y16, y17, y18⟩
  · left
    obtain ⟨gr3, t4, t5, t6⟩ := rb_bad (a := 10 * n + 5) (by omega) 409252 y6
    obtain ⟨gr4, t7, t8, t9⟩ := RT22_bad hn t5
    refine ⟨h', gc', gr4, ?_, z3.tr y2, y3, y4, ?_, t8, z4.tr (y7.tr (t6.tr t9))⟩
    · unfold TC2
      rw [pk (K0 := fun g' => RC12 (nI n) (nI 0) g') (K1 := fun g2 => TC3 n g2) y1, if_pos (show nI 0 = (0 : Int32) from rfl)]
      exact RC12_0 _ _
    · rw [show fX12_readBehind (nI (10 * n + 3)) (52 : Int64) gr1 = some ((), gr') from y5, pu_bd, t4, pu_bd, t7]
  have eC2 : TC2 n gc1 = TC3 n gc2 := by
    unfold TC2
    rw [pk (K0 := fun g' => RC12 (nI n) (nI 0) g') (K1 := fun g2 => TC3 n g2) y1, if_neg (show ¬ nI 1 = (0 : Int32) by decide)]
  rw [eC2, show fX12_readBehind (nI (10 * n + 3)) (52 : Int64) gr1 = some ((), gr2) from y2, pu_bd]
  rcases tBeh hT hn (j := 2) (a := 10 * n + 5) (w := 13) (by decide) (by omega) (by decide) (by decide) y5 y6 y11 y10 y12 with ⟨h', gc', gr', x1, x2, x3, x4, x5, x6, x7⟩ | ⟨h3, u3, p3, D3, gc3, gr3, X3, x1, x2, x3, x4, x5, x6, x7, x8, x9, x10, x11, x12, x13, x14, x15, x16, x17, x18⟩
  · left
    obtain ⟨gr4, t7, t8, t9⟩ := RT22_bad hn x6
    refine ⟨h', gc', gr4, ?_, z3.tr (y3.tr x2), x3, x4, ?_, t8, z4.tr (y4.tr (x7.tr t9))⟩
    · unfold TC3
      rw [pk (K0 := fun g' => RC12 (nI n) (nI 0) g') (K1 := fun g2 => RC12 (nI n) (nI 1) g2) x1, if_pos (show nI 0 = (0 : Int32) from rfl)]
      exact RC12_0 _ _
    · rw [show fX12_readBehind (nI (10 * n + 5)) (409252 : Int64) gr2 = some ((), gr') from x5, pu_bd, t7]
  have eC3 : TC3 n gc2 = RC12 (nI n) (nI 1) gc3 := by
    unfold TC3
    rw [pk (K0 := fun g' => RC12 (nI n) (nI 0) g') (K1 := fun g2 => RC12 (nI n) (nI 1) g2) x1, if_neg (show ¬ nI 1 = (0 : Int32) by decide)]
  rw [eC3, show fX12_readBehind (nI (10 * n + 5)) (409252 : Int64) gr2 = some ((), gr3) from x2, pu_bd]
  have hb3 := x5.2.2.2.2.2.2.b hT
  rcases toldTail hT hn x5 x6 x11 x10 x12 with ⟨h', gc', gr', w1, w2, w3, w4, w5, w6, w7⟩ | H
  · exact Or.inl ⟨h', gc', gr', w1, z3.tr (y3.tr (x3.tr w2)), w3, w4, w5, w6, z4.tr (y4.tr (x4.tr w7))⟩
  · right
    have H2 := tailU (sy := True) (D := fun j => if j = 0 then D1 else if j = 1 then D2 else D3) hT (by omega) (fun _ j hj => by
      rcases (show j = 0 ∨ j = 1 ∨ j = 2 by omega) with rfl | rfl | rfl
      · refine ⟨u, X.2.2, X1.2.2, by omega, ?_, (z15.mono (Nat.le_of_lt y9) y14).mono (Nat.le_of_lt x9) x14, ?_, ?_, (z17.mono y18).mono x18⟩
        · rw [x13, am_up_at (by omega), y13, am_up_at (by omega), z13]
          exact am_up_eq
        · rw [x16, am_up_at (by omega), am_up_at (by omega), y16, am_up_at (by omega), am_up_at (by omega), z16, am_up_at (by omega)]
          exact am_up_eq
        · rw [x16, am_up_at (by omega), am_up_at (by omega), y16, am_up_at (by omega), am_up_at (by omega), z16]
          exact am_up_eq
      · refine ⟨u1, X1.2.2, X2.2.2, by omega, ?_, y15.mono (Nat.le_of_lt x9) x14, ?_, ?_, y17.mono x18⟩
        · rw [x13, am_up_at (by omega), y13]
          exact am_up_eq
        · rw [x16, am_up_at (by omega), am_up_at (by omega), y16, am_up_at (by omega)]
          exact am_up_eq
        · rw [x16, am_up_at (by omega), am_up_at (by omega), y16]
          exact am_up_eq
      · refine ⟨u2, X2.2.2, X3.2.2, by omega, ?_, x15, ?_, ?_, x17⟩
        · rw [x13]
          exact am_up_eq
        · rw [x16, am_up_at (by omega)]
          exact am_up_eq
        · rw [x16]
          exact am_up_eq) H
    obtain ⟨h', u', p', X', D, t, To, gc', gr', w1, w2, w3, w4, w5, w6, w7, w8, w9, w10, w11, w12, w13, w14, w15, w16, w17⟩ := H2
    refine ⟨h', u', p', X', D, t, To, gc', gr', w1, w2, z3.tr (y3.tr (x3.tr w3)), z4.tr (y4.tr (x4.tr w4)), w5, w6, by rw [w7, x7, y7, z7], w8, by omega, w10, w11, by omega, (z18.tr y18).tr (x18.tr w13), fun i hi => by rw [w14 i (by omega), x14 i (by omega), y14 i (by omega), z14 i hi], fun k hk => by rw [w15 k hk, x13, am_up_at (by omega), y13, am_up_at (by omega), z13, am_up_at (by omega)], fun k hk => by rw [w16 k hk, x16, am_up_at (by omega), am_up_at (by omega), y16, am_up_at (by omega), am_up_at (by omega), z16, am_up_at (by omega), am_up_at (by omega)], w17⟩
end TCC

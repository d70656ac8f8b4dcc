/-! ===== pieces of a clause ===== -/
/-- the steps from a on say D, and end before u -/
def VC (st : Nat → Int32) (u a : Nat) (D : pD) : Prop := ∃ e d, SegC st a e d D ∧ d ≤ 50 ∧ e < u ∧ st e = nI 0
def VR (md : Bool) (X : Cd) (f l : Nat) (D : pD) : Prop := ∃ d, SegR md X.1 X.2.1 f l d D ∧ d ≤ 50 ∧ l ≤ X.2.2
theorem VC.mono {st st' : Nat → Int32} {u u' a : Nat} {D : pD} (h : VC st u a D) (hu : u ≤ u') (he : ∀ i, i < u → st' i = st i) : VC st' u' a D := by
  obtain ⟨e, d, h1, h2, h3, h4⟩ := h
  exact ⟨e, d, h1.mono (Nat.le_refl _) (fun i _ hi => he i (by omega)), h2, by omega, by rw [he e h3]; exact h4⟩
/-- what was read stays -/
def pfx (X X' : Cd) : Prop := X.2.2 ≤ X'.2.2 ∧ ∀ i, i < X.2.2 → X'.1 i = X.1 i ∧ X'.2.1 i = X.2.1 i
theorem pfx.rf (X : Cd) : pfx X X := ⟨Nat.le_refl _, fun _ _ => ⟨rfl, rfl⟩⟩
theorem pfx.tr {X Y Z : Cd} (h : pfx X Y) (h' : pfx Y Z) : pfx X Z := ⟨Nat.le_trans h.1 h'.1, fun i hi => ⟨(h'.2 i (Nat.lt_of_lt_of_le hi h.1)).1.trans (h.2 i hi).1, (h'.2 i (Nat.lt_of_lt_of_le hi h.1)).2.trans (h.2 i hi).2⟩⟩
theorem VR.mono {md : Bool} {X X' : Cd} {f l : Nat} {D : pD} (h : VR md X f l D) (hp : pfx X X') : VR md X' f l D := by
  obtain ⟨d, h1, h2, h3⟩ := h
  exact ⟨d, h1.mono (Nat.le_refl _) (fun i _ hi => hp.2 i (by omega)), h2, Nat.le_trans h3 hp.1⟩
def FcQ (g g' : am_G) : Prop := g'.2 = g.2 ∧ ∀ a k, ¬ (a = 33 ∧ k = 2) → a ≠ 34 → a ≠ 35 → ¬ (a = 29 ∧ 6 ≤ k ∧ k ≤ 9) → am_I g' a k = am_I g a k
theorem FcQ.rf (g : am_G) : FcQ g g := ⟨rfl, fun _ _ _ _ _ _ => rfl⟩
theorem FcQ.tr {g h i : am_G} (h1 : FcQ g h) (h2 : FcQ h i) : FcQ g i := ⟨h2.1.trans h1.1, fun a k x y z w => (h2.2 a k x y z w).trans (h1.2 a k x y z w)⟩
theorem FcP.Q {g h : am_G} (h1 : FcP g h) : FcQ g h := ⟨h1.1, fun a k _ _ z w => h1.2 a k z w⟩
theorem FcQ.si {g h : am_G} (h1 : FcQ g h) {a k : Nat} (ha : (a = 33 ∧ k = 2) ∨ a = 34 ∨ a = 35 ∨ (a = 29 ∧ 6 ≤ k ∧ k ≤ 9)) (x : Int32) : FcQ g (am_si h a k x) := ⟨h1.1, fun b j y z w v => by rw [pI_si, if_neg (fun q => by omega)]; exact h1.2 b j y z w v⟩
theorem CS.cq {md : Bool} {b : Nat → Nat} {len h u p bk h' u' p' bk' : Nat} {g g' : am_G} (hs : CS md b len h u p bk g) (hf : FcQ g g') (e7 : am_I g' 29 7 = nI h') (e6 : am_I g' 29 6 = nI u') (e8 : am_I g' 29 8 = nI p') (e9 : am_I g' 29 9 = nI bk') (hR : Rch b len h') : CS md b len h' u' p' bk' g' :=
  ⟨e7, e6, e8, e9, by rw [hf.2 29 10 (by decide) (by decide) (by decide) (by omega)]; exact hs.2.2.2.2.1, fun i hi => by rw [hf.2 31 i (by omega) (by decide) (by decide) (by omega)]; exact hs.2.2.2.2.2.1 i hi, hR⟩
/-- one row of a clause is written -/
theorem CS.row {md : Bool} {b : Nat → Nat} {len h u p bk : Nat} {g : am_G} (hs : CS md b len h u p bk g) (k : Nat) (x : Int32) : CS md b len h u p bk (am_si g 34 k x) := hs.cq ((FcQ.rf g).si (by omega) _) (by rw [pe_ine (by decide)]; exact hs.1) (by rw [pe_ine (by decide)]; exact hs.2.1) (by rw [pe_ine (by decide)]; exact hs.2.2.1) (by rw [pe_ine (by decide)]; exact hs.2.2.2.1) hs.2.2.2.2.2.2
section KEEP
variable {md : Bool} {b : Nat → Nat} {len : Nat}
def YF (b : Nat → Nat) (len : Nat) (Rc' : Option (Int32 × am_G)) (Rr : Option (Unit × am_G)) (gc gr : am_G) : Prop := ∃ h' gc' gr', Rc' = some (nI 0, gc') ∧ FcQ gc gc' ∧ am_I gc' 29 7 = nI h' ∧ Rch b len h' ∧ Rr = some ((), gr') ∧ FBo b len h' gr' ∧ FrP gr gr'
def YO (md : Bool) (b : Nat → Nat) (len : Nat) (Rc' : Option (Int32 × am_G)) (Rr : Option (Unit × am_G)) (tst : Prop) (r u0 h u p : Nat) (X : Cd) (gc gr : am_G) : Prop :=
  ∃ h' u' p' D gc' gr' X', Rc' = some (nI 1, gc') ∧ Rr = some ((), gr') ∧ FcQ gc gc' ∧ CS md b len h' u' p' 0 gc' ∧ h < h' ∧ u < u' ∧ u' ≤ h' ∧ X'.2.2 + 1 ≤ h' ∧ p ≤ p' ∧ p' ≤ 50 ∧ am_I gc' 34 = am_up (am_I gc 34) r (nI u0) ∧ (∀ i, i < u → am_I gc' 35 i = am_I gc 35 i) ∧ VC (am_I gc' 35) u' u D ∧ FrP gr gr' ∧ RQ md b len h' X' p' gr' ∧ VR md X' X.2.2 X'.2.2 D ∧ pfx X X' ∧ (tst → dT D) ∧ (md = false → okD D)
/-- an end of steps behind what was read -/
theorem endOf (hT : Tp b len) {tst : Prop} {nt : Nat → Prop} {h u p r : Nat} {X : Cd} {gc gc0 gr : am_G} {Rc' : Option (Int32 × am_G)} {Rr : Option (Unit × am_G)} (hf0 : FcQ gc gc0) (h34 : am_I gc0 34 = am_up (am_I gc 34) r (nI u)) (h35 : am_I gc0 35 = am_I gc 35) (hX : X.2.2 + 1 ≤ h) (hu : u + 1 ≤ h) (H : XF b len Rc' Rr gc0 gr ∨ XO md b len Rc' Rr tst nt h u p X gc0 gr) : YF b len (am_bd Rc' fun v3 g4 => am_bd (fX5_addStep (0 : Int32) (0 : Int32) g4) fun _ g7 => am_gd (am_zb v3) <| some (v3, g7)) Rr gc gr ∨ YO md b len (am_bd Rc' fun v3 g4 => am_bd (fX5_addStep (0 : Int32) (0 : Int32) g4) fun _ g7 => am_gd (am_zb v3) <| some (v3, g7)) Rr tst r u h u p X gc gr := by
  rcases H with ⟨h', gc', gr', z1, z2, z3, z4, z5, z6, z7, z8⟩ | ⟨h', u', p', d, D, gc', gr', X', z1, z2, m1, m2, m3, m4, m5, m6, m7, m8, m9, m10, m13, m14, q3, q4, q5, m16, m17, -⟩
  · obtain ⟨gc3, y1, y2, y3, y4⟩ := q5_addF 0 z4
    refine Or.inl ⟨h', gc3, gr', ?_, hf0.tr (z2.Q.tr y2.Q), by rw [y3]; exact z3, z5, z6, z7.o, z8⟩
    rw [z1, pu_bd, y1, pu_bd, pz_0]
  · have hb' := m2.2.2.2.2.2.2.b hT
    obtain ⟨y1, y2⟩ := q5_addStep m2 (k := 0) (w := 0) (by decide) (by decide) (by omega)
    have fc3 : FcP gc' (am_si (am_si gc' 35 u' (nI (1024 * 0 + 0))) 29 6 (nI (u' + 1))) := ((FcP.rf gc').si (by omega) _).si (by omega) _
    have s35 : am_I (am_si (am_si gc' 35 u' (nI (1024 * 0 + 0))) 29 6 (nI (u' + 1))) 35 u' = nI 0 := by rw [pe_ine (by decide), pe_ieq]
    have o35 : ∀ i, i < u' → am_I (am_si (am_si gc' 35 u' (nI (1024 * 0 + 0))) 29 6 (nI (u' + 1))) 35 i = am_I gc' 35 i := fun i hi => by rw [pe_ine (by decide), pe_ik (by omega)]
    have e : (am_bd Rc' fun v3 g4 => am_bd (fX5_addStep (0 : Int32) (0 : Int32) g4) fun _ g7 => am_gd (am_zb v3) <| some (v3, g7)) = some (nI 1, am_si (am_si gc' 35 u' (nI (1024 * 0 + 0))) 29 6 (nI (u' + 1))) := by
      rw [z1, pu_bd, show (0 : Int32) = nI 0 from rfl, y1, pu_bd, pz_1]
    generalize am_si (am_si gc' 35 u' (nI (1024 * 0 + 0))) 29 6 (nI (u' + 1)) = gc3 at *
    have lt := q3.1
    refine Or.inr ⟨h', u' + 1, p', D, gc3, gr', X', e, z2, hf0.tr (m1.Q.tr fc3.Q), y2, m3, by omega, by omega, by omega, by omega, m10, ?_, fun i hi => by rw [o35 i (by omega), m6 i hi, h35], ⟨u', d, m7.mono (Nat.le_refl _) (fun i _ hi => o35 i hi), by omega, by omega, s35⟩, m13, m14, ⟨d, q3, by omega, Nat.le_refl _⟩, ⟨by omega, q4⟩, m16, m17⟩
    rw [← h34]
    funext k
    rw [fc3.2 34 k (by decide) (by omega), m1.2 34 k (by decide) (by omega)]
theorem cl6 {i j : Nat} (hi : i < 12) : (nI i * (6 : Int32)) + nI j = nI (6 * i + j) := by
  rw [show (6 : Int32) = nI 6 from rfl, nn_mul, nI_add, Nat.mul_comm]
theorem kSum (hT : Tp b len) {h u p i j : Nat} {X : Cd} {gc gr : am_G} (hi : i < 12) (hj : j < 3) (hc : CS md b len h u p 0 gc) (hq : RQ md b len h X p gr) (hX : X.2.2 + 1 ≤ h) (hu : u + 1 ≤ h) (hp : p ≤ 50) : YF b len (fX5_keepSum (nI i) (nI j) gc) (fX12_readExpression (nI 0) gr) gc gr ∨ YO md b len (fX5_keepSum (nI i) (nI j) gc) (fX12_readExpression (nI 0) gr) False (6 * i + 1 + j) u h u p X gc gr := by
  have e : fX5_keepSum (nI i) (nI j) gc = (am_bd (fX5_readSum (am_si gc 34 (6 * i + 1 + j) (nI u))) fun v3 g4 => am_bd (fX5_addStep (0 : Int32) (0 : Int32) g4) fun _ g7 => am_gd (am_zb v3) <| some (v3, g7)) := by
    unfold fX5_keepSum
    rw [show (1 : Int32) = nI 1 from rfl, cl6 hi, nI_add, pe_gd (show 6 * i + 1 + j < 72 by omega) (by decide), pu_let, pe_clamp (show 6 * i + 1 + j < 2147483648 by omega), hc.2.1]
  rw [e]
  exact endOf hT ((FcQ.rf gc).si (by omega) _) (by rw [pI_si_row]) (by rw [pI_si_ne _ _ _ (by decide)]) hX hu (exprS hT (hc.row _ _) hq (by omega) hX (by omega) hp)
/-- "if" and a test, or none -/
def ifR (g : am_G) : Option (Unit × am_G) := am_bd (fX12_isWord (294 : Int64) g) fun v g' => if v = 0 then some ((), g') else am_bd (fX12_next g') fun _ g2 => fX12_readExpression (1 : Int32) g2
theorem kTest (hT : Tp b len) {h u p i : Nat} {X : Cd} {gc gr : am_G} (hi : i < 12) (hc : CS md b len h u p 0 gc) (hq : RQ md b len h X p gr) (hX : X.2.2 + 1 ≤ h) (hu : u ≤ h) (hp : p ≤ 50) : (fX5_keepTest (nI i) gc = some (nI 1, am_si gc 34 (6 * i + 4) (-1)) ∧ ifR gr = some ((), gr)) ∨ YF b len (fX5_keepTest (nI i) gc) (ifR gr) gc gr ∨ YO md b len (fX5_keepTest (nI i) gc) (ifR gr) True (6 * i + 4) u h u p X gc gr := by
  have c1 := hc.row (6 * i + 4) (-1)
  have hb := hc.2.2.2.2.2.2.b hT
  have w := qw_if hq.tk
  have st : fX5_keepTest (nI i) gc = (am_bd (fX5_pass (nI 7) (am_si gc 34 (6 * i + 4) (-1))) fun v4 g5 => if v4 = 0 then some ((1 : Int32), g5) else am_gd (am_in (nI (6 * i + 4)) 72) <| am_let (am_si g5 34 (6 * i + 4) (am_I g5 29 6)) fun g9 => am_bd (fX5_readTest g9) fun v10 g11 => am_bd (fX5_addStep (0 : Int32) (0 : Int32) g11) fun u13 g14 => am_gd (am_zb v10) <| some (v10, g14)) := by
    unfold fX5_keepTest
    rw [pu_let, show (4 : Int32) = nI 4 from rfl, cl6 hi, pe_gd (show 6 * i + 4 < 72 by omega) (by decide), pu_let, pe_clamp (show 6 * i + 4 < 2147483648 by omega)]
    rfl
  by_cases h7 : tkF b len h = 7
  · obtain ⟨pa, ca⟩ := q5_passT hT c1 h7 (by decide)
    obtain ⟨gr1, e1, r1, f1⟩ := hq.nx hT
    have c2 := ca.row (6 * i + 4) (nI u)
    have hX' := exprT (md := md) hT c2 r1 (by omega) (by omega) (by omega) hp
    have hf0 : FcQ gc (am_si (am_si (am_si gc 34 (6 * i + 4) (-1)) 29 7 (nI (h + 1))) 34 (6 * i + 4) (nI u)) := (((FcQ.rf gc).si (by omega) _).si (by omega) _).si (by omega) _
    have h34 : am_I (am_si (am_si (am_si gc 34 (6 * i + 4) (-1)) 29 7 (nI (h + 1))) 34 (6 * i + 4) (nI u)) 34 = am_up (am_I gc 34) (6 * i + 4) (nI u) := by
      rw [pI_si_row, pI_si_ne _ _ _ (by decide), pI_si_row]
      funext k
      by_cases e : k = 6 * i + 4
      · rw [e, am_up_eq, am_up_eq]
      · rw [am_up_ne e, am_up_ne e, am_up_ne e]
    have h35 : am_I (am_si (am_si (am_si gc 34 (6 * i + 4) (-1)) 29 7 (nI (h + 1))) 34 (6 * i + 4) (nI u)) 35 = am_I gc 35 := by rw [pI_si_ne _ _ _ (by decide), pI_si_ne _ _ _ (by decide), pI_si_ne _ _ _ (by decide)]
    have H := endOf hT hf0 h34 h35 (by omega) (by omega) hX'
    have e1' : fX5_keepTest (nI i) gc = (am_bd (fX5_readTest (am_si (am_si (am_si gc 34 (6 * i + 4) (-1)) 29 7 (nI (h + 1))) 34 (6 * i + 4) (nI u))) fun v3 g4 => am_bd (fX5_addStep (0 : Int32) (0 : Int32) g4) fun _ g7 => am_gd (am_zb v3) <| some (v3, g7)) := by
      rw [st, pa, pu_bd, if_neg (show ¬ nI 1 = (0 : Int32) by decide), pe_gd (show 6 * i + 4 < 72 by omega) (by decide), pu_let, ca.2.1]
    have e2 : ifR gr = fX12_readExpression (nI 1) gr1 := by
      unfold ifR
      rw [w, pb_eq h7, pu_bd, if_neg (show ¬ nI 1 = (0 : Int32) by decide), e1, pu_bd]
      rfl
    rw [e1', e2]
    rcases H with ⟨h', gc', gr', z1, z2, z3, z4, z5, z6, z7⟩ | ⟨h', u', p', D, gc', gr', X', z1, z2, z3, z4, z5, z6, z7, z8, z9, z10, z11, z12, z13, z14, z15, z16, z17, z18, z19⟩
    · exact Or.inr (Or.inl ⟨h', gc', gr', z1, z2, z3, z4, z5, z6, f1.P.tr z7⟩)
    · exact Or.inr (Or.inr ⟨h', u', p', D, gc', gr', X', z1, z2, z3, z4, by omega, z6, z7, z8, z9, z10, z11, z12, z13, f1.P.tr z14, z15, z16, z17, z18, z19⟩)
  · refine Or.inl ⟨?_, ?_⟩
    · rw [st, q5_passF hT c1 h7 (by decide), pu_bd, if_pos (show nI 0 = (0 : Int32) from rfl)]
      rfl
    · unfold ifR
      rw [w, pb_ne h7, pu_bd, if_pos (show nI 0 = (0 : Int32) from rfl)]
end KEEP

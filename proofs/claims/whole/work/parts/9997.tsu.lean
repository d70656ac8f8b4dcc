/-! ===== a sum of talks is reckoned, on both sides ===== -/
def LK (g : am_G) (K : Nat → Int32) : Prop := (∀ k, 1 ≤ k → k ≤ 5 → am_L g 19 k = (K (21 + k)).toInt64) ∧ ∀ s, s < 6 → K (28 + s) = am_I g 2 (10 + 10 * s + 0) ∧ K (34 + s) = am_I g 2 (10 + 10 * s + 8)
theorem LK.lf {g : am_G} {K : Nat → Int32} (h : LK g K) : LfR true (am_si g 0 20 (nI 1)) K := ⟨fun e => (by cases e), fun _ => ⟨pe_ieq _ _ _ _, h.1, fun s hs => by rw [pe_ine (by decide), pe_ine (by decide)]; exact h.2 s hs⟩⟩
theorem LK.fr {g g' : am_G} {K : Nat → Int32} (h : LK g K) (hf : FrJ g g') (h19 : am_L g' 19 = am_L g 19) : LK g' K := ⟨fun k h1 h2 => by rw [h19]; exact h.1 k h1 h2, fun s hs => by rw [hf.1 2 _ (by omega), hf.1 2 _ (by omega)]; exact h.2 s hs⟩
/-- the text that was read -/
def TxT (n : Nat) (c : Nat → pTk) (u : Nat) (X : Cd) (gc gr : am_G) : Prop := ShR gc ∧ am_I gr 0 21 = nI n ∧ am_I gc 33 2 = nI n ∧ n ≤ 12 ∧ TdI n c u X gc gr ∧ (∀ i, i < X.2.2 → am_I gr 11 i = nI (X.1 i) ∧ am_I gr 12 i = nI (X.2.1 i)) ∧ u ≤ 512 ∧ X.2.2 < 400
theorem TxT.cg {n u : Nat} {c : Nat → pTk} {X : Cd} {gc gr gc' gr' : am_G} (h : TxT n c u X gc gr) (hs : ShR gc') (h33 : am_I gc' 33 2 = am_I gc 33 2) (h34 : am_I gc' 34 = am_I gc 34) (h35 : am_I gc' 35 = am_I gc 35) (h21 : am_I gr' 0 21 = am_I gr 0 21) (h11 : ∀ k, am_I gr' 11 k = am_I gr 11 k) (h12 : ∀ k, am_I gr' 12 k = am_I gr 12 k) (hr33 : ∀ k, am_I gr' 33 k = am_I gr 33 k) : TxT n c u X gc' gr' := by
  obtain ⟨a1, a2, a3, a4, a5, a6, a7, a8⟩ := h
  exact ⟨hs, by rw [h21]; exact a2, by rw [h33]; exact a3, a4, a5.mono (fun _ _ => rfl) (Nat.le_refl _) (pfx.rf X) (fun i _ => by rw [h35]) (fun k _ => by rw [h34]) (fun k _ => hr33 k), fun i hi => by rw [h11, h12]; exact a6 i hi, a7, a8⟩
theorem TxT.fr {n u : Nat} {c : Nat → pTk} {X : Cd} {gc gr gc' gr' : am_G} (h : TxT n c u X gc gr) (hc : FcA gc gc') (hr : FrJ gr gr') : TxT n c u X gc' gr' :=
  h.cg (h.1.tra (fun a _ => by rw [show am_S gc' = am_S gc from congrArg (fun z => z.2.2.1) hc.1]) (by rw [show am_P gc' = am_P gc from congrArg (fun z => z.2.1) hc.1])) (by rw [hc.2 33 (by decide) (by decide)]) (hc.2 34 (by decide) (by decide)) (hc.2 35 (by decide) (by decide)) (hr.1 0 21 (by omega)) (fun k => hr.1 11 k (by omega)) (fun k => hr.1 12 k (by omega)) (fun k => hr.1 33 k (by omega))
theorem q12_sumOf {g : am_G} {K : Nat → Int32} {a f l : Nat} {D : pD} {X : Cd} (ha : a + 1 < 120) (h60 : am_I g 0 60 = nI 0) (e1 : am_I g 33 a = nI f) (e2 : am_I g 33 (a + 1) = nI l) (hV : VR true X f l D) (hX : X.2.2 < 400) (hcd : ∀ i, i < X.2.2 → am_I g 11 i = nI (X.1 i) ∧ am_I g 12 i = nI (X.2.1 i)) (hL : LK g K) : ∃ w g', fX12_sumOf (nI a) g = some (w, g') ∧ FrJ g g' ∧ am_L g' 19 = am_L g 19 ∧ am_I g' 0 20 = nI 0 ∧ (∀ v, D K = some v → w = v.toInt64 ∧ am_I g' 0 60 = nI 0) ∧ (D K = none → am_I g' 0 60 = nI 1) := by
  obtain ⟨d, v1, v2, v3⟩ := hV
  have hR : ValR true X.1 X.2.1 f l D := ⟨d, v1, by omega, by omega⟩
  obtain ⟨fn, x, w, r1, r2, r3⟩ := hR.run (g := am_si g 0 20 (nI 1)) (K := K) (fun i h1 h2 => Or.inr ⟨pe_ieq _ _ _ _, by omega, by rw [pe_ine (by decide)]; exact (hcd i (by omega)).1, by rw [pe_ine (by decide)]; exact (hcd i (by omega)).2⟩) hL.lf
  have hx : x = nI 0 ∨ x = nI 1 := by
    cases e : D K with
    | none => exact Or.inr (r3 e)
    | some v => exact Or.inl (r2 v e).1
  have a1 : nI a + (1 : Int32) = nI (a + 1) := nI_add _ 1
  have f33 : ∀ k, am_I (am_si g 0 20 (nI 1)) 33 k = am_I g 33 k := fun k => pe_ine (by decide)
  refine ⟨w, am_si (am_si (am_sl (am_si (am_srL (am_si g 0 20 (nI 1)) 20 fn) 0 38 x) 0 39 w) 0 20 (nI 0)) 0 60 x, ?_, ((((((FrJ.rf g).si (by omega) _).srL fn).si (by omega) _).sl (Or.inr ⟨rfl, rfl⟩) _).si (by omega) _).si (by omega) _, ?_, ?_, ?_, ?_⟩
  · unfold fX12_sumOf
    rw [if_pos (show am_I g 0 60 = 0 from h60), pu_let, pe_gd (show a < 120 by omega) (by decide), a1, pe_gd (show a + 1 < 120 by omega) (by decide), pe_clamp (show a < 2147483648 by omega), pe_clamp (show a + 1 < 2147483648 by omega), show (1 : Int32) = nI 1 from rfl, f33, f33, e1, e2, r1, pu_bd, pu_let]
    have g38 : am_I (am_si (am_sl (am_si (am_srL (am_si g 0 20 (nI 1)) 20 fn) 0 38 x) 0 39 w) 0 20 0) 0 38 = x := by
      rw [pe_ik (by decide)]
      show am_I (am_si (am_srL (am_si g 0 20 (nI 1)) 20 fn) 0 38 x) 0 38 = x
      rw [pe_ieq]
    rw [g38]
    have g39 : ∀ y, am_L (am_si (am_si (am_sl (am_si (am_srL (am_si g 0 20 (nI 1)) 20 fn) 0 38 x) 0 39 w) 0 20 0) 0 60 y) 0 39 = w := fun y => pL_eq _ _ _ _
    rcases hx with rfl | rfl
    · rw [pz_0, pu_let, g39]
      rfl
    · rw [pz_1, pu_let, g39]
      rfl
  · show am_L (am_sl (am_si (am_srL (am_si g 0 20 (nI 1)) 20 fn) 0 38 x) 0 39 w) 19 = am_L g 19
    funext k
    rw [pL_sl, if_neg (by omega)]
    show am_L (am_srL (am_si g 0 20 (nI 1)) 20 fn) 19 k = am_L g 19 k
    rw [rL_ne _ _ (by decide)]
    rfl
  · rw [pe_ik (by decide), pe_ieq]
  · intro v hv
    exact ⟨(r2 v hv).2, by rw [pe_ieq]; exact (r2 v hv).1⟩
  · intro hn
    rw [pe_ieq]
    exact r3 hn
/-- a sum not reckoned, as one before it broke -/
theorem q12_sumOfN {g : am_G} {a : Int32} (h60 : am_I g 0 60 = nI 1) : fX12_sumOf a g = some (0, g) := by
  unfold fX12_sumOf
  rw [if_neg (show ¬ am_I g 0 60 = 0 by rw [h60]; decide)]
/-- the class's -/
theorem q0_val {g : am_G} {u a : Nat} {D : pD} (hs : ShR g) (hu : u ≤ 512) (hV : VC (am_I g 35) u a D) : ∃ g', fX0_value 35 (nI a) g = some ((D (am_I g 37)).getD pBR, g') ∧ FcA g g' ∧ am_I g' 37 = am_I g 37 := by
  obtain ⟨e, d, v1, v2, v3, v4⟩ := hV
  have hC : ValC (am_I g 35) 512 a D := ⟨e, d, 0, v1, v2, by omega, by omega, v4, by omega⟩
  obtain ⟨f, hf⟩ := hC.run (p := 35) hs.2.2.1 (by decide) (fun _ _ => rfl)
  exact ⟨_, hf, ⟨rfl, fun a h1 h2 => pI_sr_ne _ _ h2⟩, pI_sr_ne _ _ (by decide)⟩
theorem q6_row {g : am_G} (hs : ShR g) {n : Nat} (hn : n < 12) : fX6_kindOf 33 (nI n) g = some (am_I g 34 (6 * n), g) ∧ fX6_testOf 33 (nI n) g = some (am_I g 34 (6 * n + 4), g) ∧ fX6_timesOf 33 (nI n) g = some (am_I g 34 (6 * n + 5), g) ∧ ∀ j, j < 3 → fX6_sumOf 33 (nI n) (nI j) g = some (am_I g 34 (6 * n + 1 + j), g) := by
  obtain ⟨s1, s2, s3, p1, p2⟩ := hs
  have a0 : nI n * (6 : Int32) + (0 : Int32) = nI (6 * n) := cl6 (j := 0) hn
  have a4 : nI n * (6 : Int32) + (4 : Int32) = nI (6 * n + 4) := cl6 (j := 4) hn
  have a5 : nI n * (6 : Int32) + (5 : Int32) = nI (6 * n + 5) := cl6 (j := 5) hn
  have a1 : nI n * (6 : Int32) + (1 : Int32) = nI (6 * n + 1) := cl6 (j := 1) hn
  refine ⟨?_, ?_, ?_, fun j hj => ?_⟩
  · unfold fX6_kindOf
    rw [pu_gd (decide_eq_true s1), p1, pu_ocs, s2, pu_gd (show decide ((20, 72).1 = 20) = true from rfl), a0, pe_gd (show 6 * n < 72 by omega) (by decide), pe_clamp (show 6 * n < 2147483648 by omega)]
  · unfold fX6_testOf
    rw [pu_gd (decide_eq_true s1), p1, pu_ocs, s2, pu_gd (show decide ((20, 72).1 = 20) = true from rfl), a4, pe_gd (show 6 * n + 4 < 72 by omega) (by decide), pe_clamp (show 6 * n + 4 < 2147483648 by omega)]
  · unfold fX6_timesOf
    rw [pu_gd (decide_eq_true s1), p1, pu_ocs, s2, pu_gd (show decide ((20, 72).1 = 20) = true from rfl), a5, pe_gd (show 6 * n + 5 < 72 by omega) (by decide), pe_clamp (show 6 * n + 5 < 2147483648 by omega)]
  · unfold fX6_sumOf
    rw [pu_gd (decide_eq_true s1), p1, pu_ocs, s2, pu_gd (show decide ((20, 72).1 = 20) = true from rfl), a1, nI_add, pe_gd (show 6 * n + 1 + j < 72 by omega) (by decide), pe_clamp (show 6 * n + 1 + j < 2147483648 by omega)]

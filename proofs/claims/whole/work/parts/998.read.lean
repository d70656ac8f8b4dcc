/-! ===== a text has been read: what stays ===== -/
theorem om_read : ∀ q ∈ om, ¬ (31 ≤ q.2.1 ∧ q.2.1 ≤ 70) ∧ q.2.1 ≠ 78 ∧ q.2.1 < 79 ∧ (q.1.1 = 0 ∨ q.1.1 = 1 ∨ q.1.1 = 2) ∧ (q.1.1 = 0 → q.1.2 = 1 ∨ q.1.2 = 8 ∨ q.1.2 = 11 ∨ q.1.2 = 13 ∨ q.1.2 = 18 ∨ q.1.2 = 20 ∨ q.1.2 = 59 ∨ q.1.2 = 63) ∧ (q.1 = (0, 13) → q.2 = (29, 4)) ∧ (q.1 = (0, 18) → q.2 = (29, 5)) ∧ (q.1 = (0, 20) → q.2 = (28, 100)) ∧ (q.2.1 = 29 → q.1 = (0, 13) ∨ q.1 = (0, 18)) := by decide +kernel
/-- the class's cells that a reading changes; the reference's -/
def FcR (g g' : am_G) : Prop := g'.2 = g.2 ∧ ∀ a k, ¬ (31 ≤ a ∧ a ≤ 70) → ¬ (a = 29 ∧ 4 ≤ k ∧ k ≤ 10) → am_I g' a k = am_I g a k
def FrR (g g' : am_G) : Prop := (∀ a k, ¬ scR a k → ¬ (a = 0 ∧ (k = 13 ∨ k = 18 ∨ k = 20)) → am_I g' a k = am_I g a k) ∧ (∀ a, a ≠ 0 → a ≠ 18 → a ≠ 19 → a ≠ 20 → am_L g' a = am_L g a) ∧ g'.2.2 = g.2.2
theorem RelM.read {B t : Nat} {gc gr gc1 gr1 : am_G} (h : RelM B t gc gr) (hc : FcR gc gc1) (hr : FrR gr gr1) (e4 : am_I gc1 29 4 = nI 0) (e13 : am_I gr1 0 13 = nI 0) (e5 : am_I gc1 29 5 = am_I gr1 0 18) (e20 : am_I gr1 0 20 = nI 0) : RelM B t gc1 gr1 := by
  obtain ⟨hR, hI, own, hU, hG, hT, hC, hW, nl, hnl, enl, hLw⟩ := h
  have eP : am_P gc1 = am_P gc := congrArg (fun z => z.2.1) hc.1
  have eS : am_S gc1 = am_S gc := congrArg (fun z => z.2.2.1) hc.1
  have en : am_n gc1 = am_n gc := congrArg (fun z => z.2.2.2.1) hc.1
  have es : am_s gc1 = am_s gc := congrArg (fun z => z.2.2.2.2) hc.1
  have enr : am_n gr1 = am_n gr := congrArg (fun z => z.2.2.1) hr.2.2
  have esr : am_s gr1 = am_s gr := congrArg (fun z => z.2.2.2) hr.2.2
  have cI : ∀ a, ¬ (31 ≤ a ∧ a ≤ 70) → a ≠ 29 → am_I gc1 a = am_I gc a := fun a h1 h2 => funext fun k => hc.2 a k h1 (by omega)
  have rI : ∀ a, a = 2 ∨ a = 3 ∨ a = 4 ∨ a = 6 ∨ a = 9 ∨ a = 34 → am_I gr1 a = am_I gr a := fun a ha => funext fun k => hr.1 a k (by unfold scR; omega) (by omega)
  have r2 := rI 2 (by omega)
  have r5 : ∀ k, k < 2176 → am_I gr1 5 k = am_I gr 5 k := fun k hk => hr.1 5 k (by unfold scR; omega) (by omega)
  have lw : ∀ {la : Nat} {ρ : Row} {n : Nat}, LwsR own gc la ρ n → LwsR own gc1 la ρ n := fun hL => hL.tra (by rw [en]; exact Nat.le_refl _) (fun _ _ => by rw [eP]) (fun a ha _ ho => ⟨ho, by rw [eS], by rw [eP], cI a (by omega) (by omega)⟩) (fun _ _ => rfl)
  refine ⟨fun q hq => ?_, ⟨fun j hj => by rw [r2]; exact hI.1 j hj, by rw [r2]; exact hI.2.1, by rw [e13]; decide, by rw [hr.1 0 8 (by unfold scR sc0; omega) (by omega)]; exact hI.2.2.2⟩, own, ?_, ?_, ?_, ?_, ?_, nl, hnl, by rw [r2]; exact enl, by rw [r2]; exact lw hLw⟩
  · obtain ⟨o1, o2, o3, o4, o5, o6, o7, o8, o9⟩ := om_read q hq
    by_cases h13 : q.1 = (0, 13)
    · rw [o6 h13, h13]; exact e4.trans e13.symm
    by_cases h18 : q.1 = (0, 18)
    · rw [o7 h18, h18]; exact e5
    by_cases h20 : q.1 = (0, 20)
    · have := hC.1
      rw [o8 h20, h20]
      show am_I gc1 28 100 = am_I gr1 0 20
      rw [cI 28 (by decide) (by decide), this, e20]
    have n29 : q.2.1 ≠ 29 := fun z => by
      rcases o9 z with y | y
      · exact h13 y
      · exact h18 y
    rw [cI _ o1 n29, hr.1 _ _ (by unfold scR sc0; omega) (fun z => by
      rcases z.2 with y | y | y
      · exact h13 (Prod.ext z.1 y)
      · exact h18 (Prod.ext z.1 y)
      · exact h20 (Prod.ext z.1 y))]
    exact hR q hq
  · obtain ⟨x, k, hx, hk, ex, ek, hring, hu⟩ := hU
    refine ⟨x, k, hx, hk, by rw [cI 26 (by decide) (by decide)]; exact ex, by rw [hr.1 0 8 (by unfold scR sc0; omega) (by omega)]; exact ek, fun j p hj hjp => ?_, fun i hi => ?_⟩
    · rw [eP] at hjp
      obtain ⟨z1, z2, z3, z4⟩ := hring j p hj hjp
      exact ⟨z1, by rw [en]; exact z2, z3.eq2 eP eS, z4⟩
    · obtain ⟨p, u1, u2, u3, u4⟩ := hu i hi
      have h79 := (hring _ p (Nat.mod_lt _ (by decide)) u1).1
      refine ⟨p, by rw [eP]; exact u1, by rw [cI 28 (by decide) (by decide), rI 6 (by omega)]; exact u2, by rw [rI 6 (by omega)]; exact u3, fun j h1 h2 => ?_⟩
      rw [r5 _ (by omega)]
      refine ⟨?_, (u4 j h1 h2).2⟩
      rw [← (u4 j h1 h2).1]
      exact congrFun (vr_cg fun a ha => cI a (by omega) (by omega)) j
  · intro kk hkk
    rw [rI 4 (by omega)]
    rcases hG kk hkk with ⟨z1, z2⟩ | ⟨v, z1, z2, z3, z4, z5, z6, z7, z8, n, z9, z10, z11⟩
    · exact Or.inl ⟨by rw [eP]; exact z1, z2⟩
    · have ei : imr gr1 kk = imr gr kk := by unfold imr; rw [rI 3 (by omega)]
      refine Or.inr ⟨v, by rw [eP]; exact z1, z2, z3, by rw [en]; exact z4, z5.eq eP eS, z6, fun j hj => ?_, by rw [ei]; exact z8, n, z9, by rw [ei]; exact z10, by rw [ei]; exact lw z11⟩
      rw [ei]
      refine ⟨?_, (z7 j hj).2⟩
      rw [← (z7 j hj).1]
      exact congrFun (vr_cg fun a ha => cI a (by omega) (by omega)) j
  · intro i hi
    rw [cI 30 (by decide) (by decide), rI 9 (by omega)]
    exact hT i hi
  · obtain ⟨c1, c2, c3, c4, c5, c6, c7, c8, c9, c10, c11, c12⟩ := hC
    exact ⟨by rw [cI 28 (by decide) (by decide)]; exact c1, c2.eq eP eS, c3.eq2 eP eS, c4.eq2 eP eS, by rw [en]; exact c5, by rw [enr]; exact c6, by rw [esr]; exact c7, by rw [en, eP]; exact c8, by rw [es, eP]; exact c9, by rw [hr.2.1 15 (by decide) (by decide) (by decide) (by decide)]; exact c10, by rw [hr.2.1 16 (by decide) (by decide) (by decide) (by decide)]; exact c11, by rw [hr.2.1 17 (by decide) (by decide) (by decide) (by decide)]; exact c12.1, c12.2.eq eP eS⟩
  · intro s hs
    rw [cI 72 (by decide) (by decide), cI 76 (by decide) (by decide), rI 34 (by omega)]
    exact hW s hs
/-! the reference begins a text -/
theorem q12_beginText (md : Bool) {b : Nat → Nat} {len : Nat} (hT : Tp b len) {g : am_G} (e13 : am_I g 0 13 = nI len) (e9 : ∀ i, i < len → am_I g 9 i = nI (b i)) (l15 : am_L g 15 = am_L am_gr 15) (l16 : am_L g 16 = am_L am_gr 16) : ∃ g', fX12_beginText (nI (tN md)) g = some ((), g') ∧ RQ md b len 0 (fun _ => 0, fun _ => 0, 0) 0 g' ∧ am_I g' 0 21 = nI 0 ∧ FrQ (am_si g 0 20 (nI (tN md))) g' := by
  obtain ⟨g1, z1, z2, z3, z4, z5⟩ := nextG hT.1 hT.2 (e := 0) (g := am_si (am_si (am_si (am_si g 0 20 (nI (tN md))) 0 15 (nI 0)) 0 19 (nI 0)) 0 18 (-1)) (by omega) (by rw [pe_ik (by decide), pe_ik (by decide), pe_ik (by decide), pe_ik (by decide)]; exact e13) (fun i hi => by rw [pe_ine (by decide), pe_ine (by decide), pe_ine (by decide), pe_ine (by decide)]; exact e9 i hi) (by rw [pe_ik (by decide), pe_ik (by decide), pe_ieq])
  have f0 : FrQ (am_si g 0 20 (nI (tN md))) (am_si (am_si (am_si (am_si g 0 20 (nI (tN md))) 0 15 (nI 0)) 0 19 (nI 0)) 0 18 (-1)) := ((((FrP.rf _).si (by omega) _).si (by omega) _).si (by omega) _).Q
  have q13 : am_I g1 0 13 = nI len := by rw [z5.1 0 13 (by omega), pe_ik (by decide), pe_ik (by decide), pe_ik (by decide), pe_ik (by decide)]; exact e13
  have q9 : ∀ i, i < len → am_I g1 9 i = nI (b i) := fun i hi => by rw [z5.1 9 i (by omega), pe_ine (by decide), pe_ine (by decide), pe_ine (by decide), pe_ine (by decide)]; exact e9 i hi
  have q19 : am_I g1 0 19 = nI 0 := by rw [z5.1 0 19 (by omega), pe_ik (by decide), pe_ieq]
  have q18 : am_I g1 0 18 = -1 := by rw [z5.1 0 18 (by omega), pe_ieq]
  have q20 : am_I g1 0 20 = nI (tN md) := by rw [z5.1 0 20 (by omega), pe_ik (by decide), pe_ik (by decide), pe_ik (by decide), pe_ieq]
  have qL : ∀ a, a ≠ 0 → am_L g1 a = am_L g a := fun a ha => funext fun k => z5.2.1 a k (by omega)
  have st : fX12_beginText (nI (tN md)) g = some ((), am_si (am_si (am_si g1 0 21 (nI 0)) 0 23 (nI 0)) 0 26 (nI 0)) := by
    unfold fX12_beginText fX12_begin
    rw [show am_zb (nI (tN md)) = true by cases md <;> rfl, pu_gdt, pu_let, pu_let, pu_let, pu_let, show (0 : Int32) = nI 0 from rfl, z1, pu_bd, pu_bd, pu_let, pu_let, pu_let]
  have frF : FrQ (am_si g 0 20 (nI (tN md))) (am_si (am_si (am_si g1 0 21 (nI 0)) 0 23 (nI 0)) 0 26 (nI 0)) := by
    refine (f0.tr z5.P.Q).tr ?_
    have f2 : FrQ g1 (am_si g1 0 21 (nI 0)) := (FrQ.rf g1).si (by omega) _
    have f3 : FrP (am_si g1 0 21 (nI 0)) (am_si (am_si (am_si g1 0 21 (nI 0)) 0 23 (nI 0)) 0 26 (nI 0)) := ((FrP.rf _).si (by omega) _).si (by omega) _
    exact f2.tr f3.Q
  refine ⟨_, st, ?_, by rw [pe_ik (by decide), pe_ik (by decide), pe_ieq], frF⟩
  refine ⟨⟨?_, fun i hi => ?_, ?_, ?_, ?_⟩, ⟨?_, fun i hi => absurd hi (by show ¬ i < 0; omega), ?_, trivial, by decide, by show 0 + 0 ≤ 400; omega, by intro q hq; cases hq⟩, ?_, ?_, ?_, ?_, ?_, ?_, ?_⟩
  · rw [rst0 (by decide) (by decide), pe_ik (by decide), pe_ik (by decide), pe_ik (by decide)]; exact q13
  · rw [rstN (by decide), pe_ine (by decide), pe_ine (by decide), pe_ine (by decide)]; exact q9 i hi
  · rw [rst0 (by decide) (by decide), pe_ik (by decide), pe_ik (by decide), pe_ik (by decide), z2, plF, Nat.sub_zero]
  · rw [rst0 (by decide) (by decide), pe_ik (by decide), pe_ik (by decide), pe_ik (by decide), z3]
    unfold enF
    rw [plF, Nat.sub_zero]
  · have : tkF b len 0 = tkS b len (skp b (len - 0) 0) := by unfold tkF; rw [plF, Nat.sub_zero]
    rw [this]
    exact z4.cg (by rw [rst0 (by decide) (by decide), pe_ik (by decide), pe_ik (by decide), pe_ik (by decide)]) rfl
  · rw [rst0 (by decide) (by decide), pe_ik (by decide), pe_ieq]
  · unfold rst; rw [pe_ik (by decide), pe_ieq]; rfl
  · rw [rst0 (by decide) (by decide), pe_ik (by decide), pe_ik (by decide), pe_ik (by decide)]; exact q19
  · rw [rst0 (by decide) (by decide), pe_ieq]
  · unfold rst; rw [pe_ieq]
  · rw [rst0 (by decide) (by decide), pe_ik (by decide), pe_ik (by decide), pe_ik (by decide)]; exact q20
  · exact (qL 15 (by decide)).trans l15
  · exact (qL 16 (by decide)).trans l16
  · rw [rst0 (by decide) (by decide), pe_ik (by decide), pe_ik (by decide), pe_ik (by decide)]; exact q18

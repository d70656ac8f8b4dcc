/-! ===== scratch on both sides ===== -/
def FcS (g g' : am_G) : Prop := g'.2 = g.2 ∧ ∀ a, ¬ (31 ≤ a ∧ a ≤ 70) → a ≠ 78 → am_I g' a = am_I g a
def sc0 (k : Nat) : Prop := k ≠ 1 ∧ k ≠ 8 ∧ k ≠ 11 ∧ k ≠ 13 ∧ k ≠ 18 ∧ k ≠ 20 ∧ k ≠ 59 ∧ k ≠ 63
def scR (a k : Nat) : Prop := (7 ≤ a ∧ a ≤ 8) ∨ (10 ≤ a ∧ a ≤ 14) ∨ (21 ≤ a ∧ a ≤ 33) ∨ (a = 0 ∧ sc0 k) ∨ (a = 5 ∧ 2176 ≤ k)
def FrT (g g' : am_G) : Prop := (∀ a k, ¬ scR a k → am_I g' a k = am_I g a k) ∧ (∀ a, a ≠ 0 → a ≠ 18 → a ≠ 19 → a ≠ 20 → am_L g' a = am_L g a) ∧ g'.2.2 = g.2.2
theorem FcS.rf (g : am_G) : FcS g g := ⟨rfl, fun _ _ _ => rfl⟩
theorem FcS.tr {g h i : am_G} (h1 : FcS g h) (h2 : FcS h i) : FcS g i := ⟨h2.1.trans h1.1, fun a x y => (h2.2 a x y).trans (h1.2 a x y)⟩
theorem FcS.si {g h : am_G} (h1 : FcS g h) {a : Nat} (ha : (31 ≤ a ∧ a ≤ 70) ∨ a = 78) (k : Nat) (x : Int32) : FcS g (am_si h a k x) := ⟨h1.1, fun b y z => by rw [pI_si_ne _ _ _ (show b ≠ a by omega)]; exact h1.2 b y z⟩
theorem FcS.srw {g h : am_G} (h1 : FcS g h) {a : Nat} (ha : (31 ≤ a ∧ a ≤ 70) ∨ a = 78) (f : Nat → Int32) : FcS g (am_sr h a f) := ⟨h1.1, fun b y z => by rw [pI_sr_ne _ _ (show b ≠ a by omega)]; exact h1.2 b y z⟩
theorem FcA.S {g h : am_G} (h1 : FcA g h) : FcS g h := ⟨h1.1, fun a x _ => h1.2 a (by omega) (by omega)⟩
theorem FrT.rf (g : am_G) : FrT g g := ⟨fun _ _ _ => rfl, fun _ _ _ _ _ => rfl, rfl⟩
theorem FrT.tr {g h i : am_G} (h1 : FrT g h) (h2 : FrT h i) : FrT g i := ⟨fun a k x => (h2.1 a k x).trans (h1.1 a k x), fun a x y z w => (h2.2.1 a x y z w).trans (h1.2.1 a x y z w), h2.2.2.trans h1.2.2⟩
theorem FrT.si {g h : am_G} (h1 : FrT g h) {a k : Nat} (ha : scR a k) (x : Int32) : FrT g (am_si h a k x) := ⟨fun b j y => by rw [pI_si, if_neg (fun z => y (by rw [z.1, z.2]; exact ha))]; exact h1.1 b j y, h1.2.1, h1.2.2⟩
theorem FrS.T {g h : am_G} (h1 : FrS g h) : FrT g h := ⟨fun a k x => h1.1 a k (fun z => x (by unfold scR sc0; omega)), fun a x y z w => funext fun k => h1.2.1 a k w y (by omega), h1.2.2⟩
theorem om_scr : ∀ q ∈ om, ¬ (31 ≤ q.2.1 ∧ q.2.1 ≤ 70) ∧ q.2.1 ≠ 78 ∧ (q.1.1 = 0 → q.1.2 = 1 ∨ q.1.2 = 8 ∨ q.1.2 = 11 ∨ q.1.2 = 13 ∨ q.1.2 = 18 ∨ q.1.2 = 20 ∨ q.1.2 = 59 ∨ q.1.2 = 63) ∧ (q.1.1 = 0 ∨ q.1.1 = 1 ∨ q.1.1 = 2) := by decide +kernel
theorem RelM.scrT {B t : Nat} {gc gr gc1 gr1 : am_G} (h : RelM B t gc gr) (hc : FcS gc gc1) (hr : FrT gr gr1) : RelM B t gc1 gr1 := by
  obtain ⟨hR, hI, own, hU, hG, hT, hC, hW, nl, hnl, enl, hLw⟩ := h
  have eP : am_P gc1 = am_P gc := congrArg (fun z => z.2.1) hc.1
  have eS : am_S gc1 = am_S gc := congrArg (fun z => z.2.2.1) hc.1
  have en : am_n gc1 = am_n gc := congrArg (fun z => z.2.2.2.1) hc.1
  have es : am_s gc1 = am_s gc := congrArg (fun z => z.2.2.2.2) hc.1
  have enr : am_n gr1 = am_n gr := congrArg (fun z => z.2.2.1) hr.2.2
  have esr : am_s gr1 = am_s gr := congrArg (fun z => z.2.2.2) hr.2.2
  have cI : ∀ a, ¬ (31 ≤ a ∧ a ≤ 70) → a ≠ 78 → am_I gc1 a = am_I gc a := hc.2
  have r2 : am_I gr1 2 = am_I gr 2 := funext fun k => hr.1 2 k (by unfold scR; omega)
  have r3 : am_I gr1 3 = am_I gr 3 := funext fun k => hr.1 3 k (by unfold scR; omega)
  have r4 : am_I gr1 4 = am_I gr 4 := funext fun k => hr.1 4 k (by unfold scR; omega)
  have r5 : ∀ k, k < 2176 → am_I gr1 5 k = am_I gr 5 k := fun k hk => hr.1 5 k (by unfold scR; omega)
  have r6 : am_I gr1 6 = am_I gr 6 := funext fun k => hr.1 6 k (by unfold scR; omega)
  have r9 : am_I gr1 9 = am_I gr 9 := funext fun k => hr.1 9 k (by unfold scR; omega)
  have r34 : am_I gr1 34 = am_I gr 34 := funext fun k => hr.1 34 k (by unfold scR; omega)
  have lw : ∀ {la : Nat} {ρ : Row} {n : Nat}, LwsR own gc la ρ n → LwsR own gc1 la ρ n := fun hL => hL.tra (by rw [en]; exact Nat.le_refl _) (fun _ _ => by rw [eP]) (fun a ha _ ho => ⟨ho, by rw [eS], by rw [eP], cI a (by omega) (by omega)⟩) (fun _ _ => rfl)
  refine ⟨fun q hq => ?_, ⟨fun j hj => by rw [r2]; exact hI.1 j hj, by rw [r2]; exact hI.2.1, by rw [hr.1 0 13 (by unfold scR sc0; omega)]; exact hI.2.2.1, by rw [hr.1 0 8 (by unfold scR sc0; omega)]; exact hI.2.2.2⟩, own, ?_, ?_, ?_, ?_, ?_, nl, hnl, by rw [r2]; exact enl, by rw [r2]; exact lw hLw⟩
  · obtain ⟨o1, o2, o3, o4⟩ := om_scr q hq
    rw [cI _ o1 o2, hr.1 _ _ (by unfold scR sc0; omega)]
    exact hR q hq
  · obtain ⟨x, k, hx, hk, ex, ek, hring, hu⟩ := hU
    refine ⟨x, k, hx, hk, by rw [cI 26 (by decide) (by decide)]; exact ex, by rw [hr.1 0 8 (by unfold scR sc0; omega)]; exact ek, fun j p hj hjp => ?_, fun i hi => ?_⟩
    · rw [eP] at hjp
      obtain ⟨z1, z2, z3, z4⟩ := hring j p hj hjp
      exact ⟨z1, by rw [en]; exact z2, z3.eq2 eP eS, z4⟩
    · obtain ⟨p, u1, u2, u3, u4⟩ := hu i hi
      have h79 := (hring _ p (Nat.mod_lt _ (by decide)) u1).1
      refine ⟨p, by rw [eP]; exact u1, by rw [cI 28 (by decide) (by decide), r6]; exact u2, by rw [r6]; exact u3, fun j h1 h2 => ?_⟩
      rw [r5 _ (by omega)]
      refine ⟨?_, (u4 j h1 h2).2⟩
      rw [← (u4 j h1 h2).1]
      exact congrFun (vr_cg fun a ha => cI a (by omega) (by omega)) j
  · intro kk hkk
    rw [r4]
    rcases hG kk hkk with ⟨z1, z2⟩ | ⟨v, z1, z2, z3, z4, z5, z6, z7, z8, n, z9, z10, z11⟩
    · exact Or.inl ⟨by rw [eP]; exact z1, z2⟩
    · have ei : imr gr1 kk = imr gr kk := by unfold imr; rw [r3]
      refine Or.inr ⟨v, by rw [eP]; exact z1, z2, z3, by rw [en]; exact z4, z5.eq eP eS, z6, fun j hj => ?_, by rw [ei]; exact z8, n, z9, by rw [ei]; exact z10, by rw [ei]; exact lw z11⟩
      rw [ei]
      refine ⟨?_, (z7 j hj).2⟩
      rw [← (z7 j hj).1]
      exact congrFun (vr_cg fun a ha => cI a (by omega) (by omega)) j
  · intro i hi
    rw [cI 30 (by decide) (by decide), r9]
    exact hT i hi
  · obtain ⟨c1, c2, c3, c4, c5, c6, c7, c8, c9, c10, c11, c12⟩ := hC
    exact ⟨by rw [cI 28 (by decide) (by decide)]; exact c1, c2.eq eP eS, c3.eq2 eP eS, c4.eq2 eP eS, by rw [en]; exact c5, by rw [enr]; exact c6, by rw [esr]; exact c7, by rw [en, eP]; exact c8, by rw [es, eP]; exact c9, by rw [hr.2.1 15 (by decide) (by decide) (by decide) (by decide)]; exact c10, by rw [hr.2.1 16 (by decide) (by decide) (by decide) (by decide)]; exact c11, by rw [hr.2.1 17 (by decide) (by decide) (by decide) (by decide)]; exact c12.1, c12.2.eq eP eS⟩
  · intro s hs
    rw [cI 72 (by decide) (by decide), cI 76 (by decide) (by decide), r34]
    exact hW s hs

/-! ===== plan ===== -/
/-- a row of days is tried and all is put back -/
def FX5 (g g' : am_G) : Prop := FrT g g' ∧ am_I g' 5 = am_I g 5
theorem FX5.rf (g : am_G) : FX5 g g := ⟨FrT.rf g, rfl⟩
theorem FX5.tr {g h i : am_G} (h1 : FX5 g h) (h2 : FX5 h i) : FX5 g i := ⟨h1.1.tr h2.1, h2.2.trans h1.2⟩
def SPr (T : Nat) (g : am_G) (st : StQ) : Prop := st.1 = 0 ∨ ∀ j, j < T → am_I g 28 j = nI (st.2 j)
section CDL
variable {q : Option pLw} {ρ : Row} {T N : Nat} {tw tp tl : Nat → Nat} {snD stD hdD : Nat → Nat → Nat} {opD : Nat → Nat → Bool} {shD : Nat → Nat → Nat → Nat}
theorem codeL {K : Int32 → am_G → Option (Int32 × am_G)} {a2 : Int32} {P : (Nat → Nat) → Bool} (hT : T ≤ 6) (hN0 : 0 < N) (hN : N ≤ 4) (hNT : N ^ T ≤ 4096) (htk : ∀ k, k < T → tw k < 16 ∧ tp k < 4 ∧ tl k ≤ 3) (hV : okV ρ) (hNum : ∀ d, d < N → (∀ e, e < d → okN q ρ e) → DNm q T tw tp tl (rhoD q ρ d) (snD d) (stD d) (hdD d) (opD d) (shD d)) (hP : ∀ c, (∀ j, j < T → c j < N) → (((∀ e, e + 1 < N → okN q ρ e) ∧ ∀ j, j < T → aPl opD shD (fun d s => rmB (snD d) (stD d) (hdD d) s) j c (c j) = true) ↔ P c = true)) : ∀ (e x m : Nat) (st : StQ) (g : am_G), x + e = N ^ T → e < m → st.1 ≤ x → TkR T tw tp tl g → LawR (am_I g 2) q → am_I g 0 20 = nI 0 → rr g = ρ → (∀ j, 6 ≤ j → j < 142 → am_I g 5 (2176 + (j - 6)) = am_I g 2 j) → SPr T g st → ∃ g', fX12_plan_L77 K (nI N) a2 (nI T) (nI (N ^ T)) m (nI st.1) (nI x) g = K (nI (fldQ P st (lsR (rowO N T 0 (fun _ => 0)) e x)).1) g' ∧ FX5 g g' ∧ SPr T g' (fldQ P st (lsR (rowO N T 0 (fun _ => 0)) e x))
  | 0, x, m, st, g, he, hm, hle, hk, hq, h20, hr, h5, hS => by
    obtain ⟨m, rfl⟩ : ∃ m', m = m' + 1 := ⟨m - 1, by omega⟩
    obtain rfl : x = N ^ T := by omega
    refine ⟨g, ?_, FX5.rf g, hS⟩
    rw [fX12_plan_L77, if_pos Int32.le_rfl]
    rfl
  | e + 1, x, m, st, g, he, hm, hle, hk, hq, h20, hr, h5, hS => by
    obtain ⟨m, rfl⟩ : ∃ m', m = m' + 1 := ⟨m - 1, by omega⟩
    have hfu : am_fu = 1048576 := rfl
    have hrow : ∀ j, j < T → rowO N T 0 (fun _ => 0) x j < N := fun j hj => by
      unfold rowO
      rw [if_pos (by omega)]
      exact Nat.mod_lt _ hN0
    rw [fX12_plan_L77, if_neg (fun z => absurd ((nI_leI (by omega) (by omega)).mp z) (by omega)), pu_let]
    obtain ⟨g1, b1, b2, b3, b4⟩ := digPl (K := fun  (g43 : am_G) =>
        am_bd (fX12_isQuiet (nI N) g43) fun v44 g45 =>
        am_bd (fX12_putBack (16 : Int32) g45) fun u47 g48 =>
        fX12_plan_L137 (fun  (g60 : am_G) =>
          am_jn (fun (x62 : Int32) (g63 : am_G) =>
            am_let (nI st.1 + x62) fun x65 =>
            am_let (nI x + (1 : Int32)) fun x66 =>
            fX12_plan_L77 K (nI N) a2 (nI T) (nI (N ^ T)) m x65 x66 g63) fun j64 =>
          if v44 = 0 then (
            j64 (0 : Int32) g60)
          else (
            j64 (1 : Int32) g60)) (nI N) a2 (nI T) (nI (N ^ T)) (nI st.1) (nI x) v44 am_fu (0 : Int32) g48) (a2 := a2) (x3 := nI T) (x20 := nI (N ^ T)) (x25 := nI st.1) (x26 := nI x) hN0 hN T am_fu x g hT (by omega) (by omega)
    have d27 : ∀ j, j < T → am_I g1 27 j = nI (rowO N T 0 (fun _ => 0) x j) := fun j hj => by
      rw [b3 j hj]
      unfold rowO
      rw [if_pos (by omega), Nat.zero_add]
    have f01 : FX5 g g1 := ⟨⟨fun a k hs => by rw [b2.2 a (fun z => hs (by unfold scR; omega))], fun a _ _ _ _ => by rw [show am_L g1 = am_L g from congrArg (fun z => z.1) b2.1], congrArg (fun z => z.2) b2.1⟩, b2.2 5 (by decide)⟩
    have e12 : am_I g1 2 = am_I g 2 := b2.2 2 (by decide)
    have k1 : TkR T tw tp tl g1 := by unfold TkR at hk ⊢; rw [e12]; exact hk
    obtain ⟨g2, y, c1, c2, c3, c4⟩ := quietL4 (c := rowO N T 0 (fun _ => 0) x) hT hN hrow htk hV hNum N 0 am_fu g1 (by omega) (by omega) k1 (by rw [e12]; exact hq) (by rw [b2.2 0 (by decide)]; exact h20) d27 (Or.inl ⟨rfl, by rw [rr_cg e12]; exact hr⟩) (fun e' he' => absurd he' (by omega))
    have hy : y = 1 ↔ P (rowO N T 0 (fun _ => 0) x) = true := (c4.trans ⟨fun z => ⟨fun e' h => z.1 e' (by omega) h, fun j hj => z.2 j hj (by omega)⟩, fun z => ⟨fun e' _ h => z.1 e' h, fun j hj _ => z.2 j hj⟩⟩).trans (hP _ hrow)
    rw [b1]
    unfold fX12_isQuiet
    rw [show fX12_isQuiet_L4 (nI N) am_fu (1 : Int32) (0 : Int32) g1 = some (nI y, g2) from c1, pu_bd, show (16 : Int32) = nI 16 from rfl, q12_putBack (by decide), pu_bd]
    -- all is back
    have e22 : am_I (am_sr g2 2 (fun j => if 6 ≤ j ∧ j < 142 then am_I g2 5 (136 * 16 + (j - 6)) else am_I g2 2 j)) 2 = am_I g 2 := by
      funext j
      rw [pI_sr_row]
      by_cases hj : 6 ≤ j ∧ j < 142
      · rw [if_pos hj, c2.1 5 _ (by decide) (by decide) (by omega) (by omega), b2.2 5 (by decide)]
        exact h5 j hj.1 hj.2
      · rw [if_neg hj, c2.1 2 j (by decide) (by decide) (by omega) (by unfold pkj; omega), e12]
    have f03 : FX5 g (am_sr g2 2 (fun j => if 6 ≤ j ∧ j < 142 then am_I g2 5 (136 * 16 + (j - 6)) else am_I g2 2 j)) := by
      refine ⟨⟨fun a k hs => ?_, fun a h1 h2 h3 h4 => ?_, c2.2.2.trans f01.1.2.2⟩, ?_⟩
      · by_cases e2 : a = 2
        · subst e2; rw [e22]
        · rw [pI_sr_ne _ _ e2, c2.1 a k (fun z => hs (by unfold scR; omega)) (fun z => hs (by unfold scR; omega)) (fun z => hs (by unfold scR sc0; omega)) (by omega)]
          exact f01.1.1 a k hs
      · funext k
        exact (c2.2.1 a k h4 h2 (by omega)).trans (by rw [f01.1.2.1 a h1 h2 h3 h4])
      · funext k
        rw [pI_sr_ne _ _ (by decide), c2.1 5 k (by decide) (by decide) (by omega) (by omega), f01.2]
    have d273 : ∀ j, j < T → am_I (am_sr g2 2 (fun j => if 6 ≤ j ∧ j < 142 then am_I g2 5 (136 * 16 + (j - 6)) else am_I g2 2 j)) 27 j = nI (rowO N T 0 (fun _ => 0) x j) := fun j hj => by
      rw [pI_sr_ne _ _ (by decide), c2.1 27 j (by decide) (by decide) (by omega) (by omega)]
      exact d27 j hj
    have d283 : am_I (am_sr g2 2 (fun j => if 6 ≤ j ∧ j < 142 then am_I g2 5 (136 * 16 + (j - 6)) else am_I g2 2 j)) 28 = am_I g 28 := by
      funext j
      rw [pI_sr_ne _ _ (by decide), c2.1 28 j (by decide) (by decide) (by omega) (by omega), b2.2 28 (by decide)]
    generalize am_sr g2 2 (fun j => if 6 ≤ j ∧ j < 142 then am_I g2 5 (136 * 16 + (j - 6)) else am_I g2 2 j) = g3 at *
    have ex : nI x + (1 : Int32) = nI (x + 1) := nI_add x 1
    -- and on
    have go : ∀ (g4 : am_G) (st' : StQ), FX5 g g4 → st'.1 ≤ x + 1 → SPr T g4 st' → ∃ g', fX12_plan_L77 K (nI N) a2 (nI T) (nI (N ^ T)) m (nI st'.1) (nI (x + 1)) g4 = K (nI (fldQ P st' (lsR (rowO N T 0 (fun _ => 0)) e (x + 1))).1) g' ∧ FX5 g g' ∧ SPr T g' (fldQ P st' (lsR (rowO N T 0 (fun _ => 0)) e (x + 1))) := by
      intro g4 st' f4 hle' hS'
      have r2 : am_I g4 2 = am_I g 2 := funext fun k => f4.1.1 2 k (by unfold scR; omega)
      obtain ⟨g', z1, z2, z3⟩ := codeL (K := K) (a2 := a2) hT hN0 hN hNT htk hV hNum hP e (x + 1) m st' g4 (by omega) (by omega) hle' (by unfold TkR at hk ⊢; rw [r2]; exact hk) (by rw [r2]; exact hq) (by rw [f4.1.1 0 20 (by unfold scR sc0; omega)]; exact h20) (by rw [rr_cg r2]; exact hr) (fun j h1 h2 => by rw [f4.2, r2]; exact h5 j h1 h2) hS'
      exact ⟨g', z1, f4.tr z2, z3⟩
    rw [lsR, fldQ]
    by_cases hy1 : y = 1
    · subst hy1
      have hPt := hy.mp rfl
      rw [if_pos hPt]
      by_cases h0 : st.1 = 0
      · obtain ⟨g4, w1, w2, w3, w4⟩ := cpyL (K := fun  (g60 : am_G) =>
          am_jn (fun (x62 : Int32) (g63 : am_G) =>
            am_let (nI 0 + x62) fun x65 =>
            am_let (nI x + (1 : Int32)) fun x66 =>
            fX12_plan_L77 K (nI N) a2 (nI T) (nI (N ^ T)) m x65 x66 g63) fun j64 =>
          if nI 1 = (0 : Int32) then (
            j64 (0 : Int32) g60)
          else (
            j64 (1 : Int32) g60)) (T := T) (a1 := nI N) (a2 := a2) (x20 := nI (N ^ T)) (x26 := nI x) hT T 0 am_fu g3 (by omega) (by omega)
        rw [h0, show (0 : Int32) = nI 0 from rfl]
        rw [show (0 : Int32) = nI 0 from rfl] at w1
        rw [w1, pu_jn]
        dsimp only
        rw [if_neg (show ¬ nI 1 = nI 0 by decide), pu_let, pu_let, ex, show nI 0 + (1 : Int32) = nI 1 from rfl]
        have f4 : FX5 g g4 := f03.tr ⟨⟨fun a k hs => by rw [w2.2 a (fun z => hs (by unfold scR; omega))], fun a _ _ _ _ => by rw [show am_L g4 = am_L g3 from congrArg (fun z => z.1) w2.1], congrArg (fun z => z.2) w2.1⟩, w2.2 5 (by decide)⟩
        have eu : (upQ st (rowO N T 0 (fun _ => 0) x)).1 = 1 := by unfold upQ; rw [h0]
        have := go g4 (upQ st (rowO N T 0 (fun _ => 0) x)) f4 (by omega) (Or.inr fun j hj => by
          rw [w3 j (by omega) hj, d273 j hj]
          show nI _ = nI ((if st.1 = 0 then rowO N T 0 (fun _ => 0) x else st.2) j)
          rw [if_pos h0])
        rw [eu] at this
        exact this
      · obtain ⟨f, ef⟩ : ∃ f, am_fu = f + 1 := ⟨1048575, rfl⟩
        have h137 : ∀ K', fX12_plan_L137 K' (nI N) a2 (nI T) (nI (N ^ T)) (nI st.1) (nI x) (nI 1) (f + 1) (0 : Int32) g3 = K' g3 := fun K' => by
          rw [fX12_plan_L137]
          by_cases hz : nI T ≤ (0 : Int32)
          · rw [if_pos hz]
          · rw [if_neg hz, if_neg (show ¬ nI 1 = (0 : Int32) by decide), if_neg (show ¬ nI st.1 = (0 : Int32) from fun z => h0 ((nn_eq (b := 0) (by omega) (by decide)).mp z))]
        rw [ef, h137, pu_jn]
        dsimp only
        rw [if_neg (show ¬ nI 1 = (0 : Int32) by decide), pu_let, pu_let, ex, show nI st.1 + (1 : Int32) = nI (st.1 + 1) from nI_add _ 1]
        refine go g3 (upQ st (rowO N T 0 (fun _ => 0) x)) f03 (by show st.1 + 1 ≤ x + 1; omega) ?_
        rcases hS with z | z
        · exact absurd z h0
        · refine Or.inr fun j hj => ?_
          rw [d283, z j hj]
          show nI (st.2 j) = nI ((if st.1 = 0 then rowO N T 0 (fun _ => 0) x else st.2) j)
          rw [if_neg h0]
    · have hy0 : y = 0 := by omega
      subst hy0
      have hPf : ¬ P (rowO N T 0 (fun _ => 0) x) = true := fun z => hy1 (hy.mpr z)
      rw [if_neg hPf]
      obtain ⟨f, ef⟩ : ∃ f, am_fu = f + 1 := ⟨1048575, rfl⟩
      have h137 : ∀ K', fX12_plan_L137 K' (nI N) a2 (nI T) (nI (N ^ T)) (nI st.1) (nI x) (nI 0) (f + 1) (0 : Int32) g3 = K' g3 := fun K' => by
        rw [fX12_plan_L137]
        by_cases hz : nI T ≤ (0 : Int32)
        · rw [if_pos hz]
        · rw [if_neg hz, if_pos (show nI 0 = (0 : Int32) from rfl)]
      rw [ef, h137, pu_jn]
      dsimp only
      rw [if_pos (show nI 0 = (0 : Int32) from rfl), pu_let, pu_let, ex, show nI st.1 + (0 : Int32) = nI st.1 from nI_add _ 0]
      exact go g3 st f03 (by omega) (hS.imp id fun z j hj => by rw [d283]; exact z j hj)
end CDL

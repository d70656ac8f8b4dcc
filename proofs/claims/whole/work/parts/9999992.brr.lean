/-! ===== bring: rows ===== -/
/-- all that a saying leaves alone -/
def AgB (ρ ρ' : Row) : Prop := ∀ j, ¬ (j = 8 ∨ j = 9 ∨ (10 ≤ j ∧ j < 70 ∧ ((j - 10) % 10 = 0 ∨ 8 ≤ (j - 10) % 10)) ∨ (70 ≤ j ∧ j < 142)) → ρ' j = ρ j
theorem AgB.rf (ρ : Row) : AgB ρ ρ := fun _ _ => rfl
theorem AgB.tr {ρ ρ' ρ'' : Row} (h : AgB ρ ρ') (h' : AgB ρ' ρ'') : AgB ρ ρ'' := fun j hj => (h' j hj).trans (h j hj)
theorem AgB.up {ρ ρ' : Row} (h : AgB ρ ρ') {j : Nat} (hj : j = 8 ∨ j = 9 ∨ (10 ≤ j ∧ j < 70 ∧ ((j - 10) % 10 = 0 ∨ 8 ≤ (j - 10) % 10)) ∨ (70 ≤ j ∧ j < 142)) (x : Int32) : AgB ρ (am_up ρ' j x) := fun i hi => by
  rw [am_up_ne (fun e => hi (by rw [e]; exact hj))]
  exact h i hi
theorem agb_mvp {ρ ρ' : Row} (h : AgB ρ ρ') {s : Nat} (hs : s < 6) : ∀ n, n ≤ 6 → AgB ρ (mvp ρ' s n)
  | 0, _ => h
  | n + 1, hn => ((agb_mvp h hs n (by omega)).up (by omega) _).up (by omega) _
theorem agb_sldA {ρ : Row} (hV : okV ρ) {s : Nat} (hs : s < 6) : AgB ρ (sldA ρ s) := by
  unfold sldA
  rcases hV.below hs with e | ⟨b, hb1, hb2, e⟩
  · rw [if_pos e]
    split
    · exact (AgB.rf ρ).up (by omega) _
    · exact (AgB.rf ρ).up (by omega) _
  · rw [e, if_neg (nI_m1ne (by omega)), pe_clamp (by omega)]
    exact (AgB.rf ρ).up (by omega) _
theorem agb_sld1 {ρ : Row} (hV : okV ρ) {s : Nat} (hs : s < 6) : AgB ρ (sld1 ρ s) := by
  have h := agb_sldA hV hs
  exact agb_mvp (((h.up (by omega) _).up (by omega) _).up (by omega) _) hs 6 (Nat.le_refl _)
theorem agb_sldU : ∀ (d s : Nat) (ρ : Row), s + d = 6 → okV ρ → AgB ρ (sldU d s ρ).2
  | 0, s, ρ, _, _ => AgB.rf ρ
  | d + 1, s, ρ, hd, hV => by
    rw [sldU]
    split
    · exact (agb_sld1 hV (by omega)).tr (agb_sldU d (s + 1) _ (by omega) (sld1_ok hV (by omega)))
    · exact agb_sldU d (s + 1) ρ (by omega) hV
theorem agb_prs (ρ : Row) (sh : Nat → Int32) : AgB ρ (prs ρ 0 sh 6) := fun j hj => prs_un ρ 0 sh 6 fun s hs => by omega
theorem shk_c6 {q : Option pLw} {ρ ρ' : Row} {w p l s : Nat} (h1 : ρ (142 + 4 * w + 0) = ρ' (142 + 4 * w + 0)) (h2 : ρ (142 + 4 * w + 1) = ρ' (142 + 4 * w + 1)) (h3 : ρ (10 + 10 * s + (4 + p)) = ρ' (10 + 10 * s + (4 + p))) (h4 : ρ (10 + 10 * s + 0) = ρ' (10 + 10 * s + 0)) (h5 : ρ 7 = ρ' 7) (h6 : ρ 6 = ρ' 6) : shk q ρ w p l s = shk q ρ' w p l s := by
  have e : eS ρ w p l s = eS ρ' w p l s := by unfold eS; rw [h1, h2, h3, h4, h5, h6]
  unfold shk
  rw [e, h1, h3]
theorem brd_c4 {q : Option pLw} {ρ ρ' : Row} {w p l : Nat} (h1 : ρ (142 + 4 * w + 0) = ρ' (142 + 4 * w + 0)) (h2 : ρ (142 + 4 * w + 1) = ρ' (142 + 4 * w + 1)) (h5 : ρ 7 = ρ' 7) (h6 : ρ 6 = ρ' 6) : brd q ρ w p l = brd q ρ' w p l := by
  have e : eB ρ w p l = eB ρ' w p l := by unfold eB; rw [h1, h2, h5, h6]
  unfold brd
  rw [e]
/-- snow and strain -/
def PrR (C : Nat) (ρ : Row) (X : Xst) : Prop := ∀ s, s < 6 → ρ (10 + 10 * s + 0) = nI (X.1 s) ∧ X.1 s ≤ 9999 ∧ ρ (10 + 10 * s + 8) = nI (X.2 s) ∧ X.2 s ≤ C
/-- hold, below, gorge -/
def FxR (hd bl : Nat → Nat) (gg : Nat → Bool) (ρ : Row) : Prop := ∀ s, s < 6 → hd s ≤ 9999 ∧ ρ (10 + 10 * s + 1) = nI (hd s) ∧ (bl s < 6 → s < bl s ∧ ρ (10 + 10 * s + 2) = nI (bl s)) ∧ (¬ bl s < 6 → ρ (10 + 10 * s + 2) = -1) ∧ (gg s = true ↔ ρ (10 + 10 * s + 3) = nI 1)
theorem FxR.ag {hd bl : Nat → Nat} {gg : Nat → Bool} {ρ ρ' : Row} (h : FxR hd bl gg ρ) (a : AgB ρ ρ') : FxR hd bl gg ρ' := fun s hs => by
  rw [a _ (by omega), a _ (by omega), a _ (by omega)]
  exact h s hs
section BRR
variable {hd bl : Nat → Nat} {gg : Nat → Bool}
theorem unst_X {C : Nat} {ρ : Row} {X : Xst} (hC : C ≤ 1500000000) (h : PrR C ρ X) (hF : FxR hd bl gg ρ) {s : Nat} (hs : s < 6) : unst ρ s = unX hd X s := by
  obtain ⟨a1, a2, a3, a4⟩ := h s hs
  obtain ⟨b1, b2, -⟩ := hF s hs
  unfold unst unX
  rw [a1, a3, b2, nI_add]
  congr 1
  · by_cases e : 0 < X.1 s
    · rw [decide_eq_true e, decide_eq_true (nI_lt (a := 0) e (by omega))]
    · rw [decide_eq_false e, decide_eq_false (fun z => e ((nI_ltI (a := 0) (by decide) (by omega)).mp z))]
  · by_cases e : hd s < X.1 s + X.2 s
    · rw [decide_eq_true e, decide_eq_true (nI_lt e (by omega))]
    · rw [decide_eq_false e, decide_eq_false (fun z => e ((nI_ltI (by omega) (by omega)).mp z))]
theorem min9X {a b : Nat} (ha : a ≤ 9999) (hb : b ≤ 9999) : am_min (nI 9999) (nI a + nI b) = nI (min 9999 (a + b)) := by
  rw [nI_add]
  by_cases h : nI (a + b) < nI 9999
  · have := (nI_ltI (by omega) (by decide)).mp h
    rw [show am_min (nI 9999) (nI (a + b)) = nI (a + b) from if_pos h, Nat.min_eq_right (by omega)]
  · have : ¬ a + b < 9999 := fun z => h (nI_lt z (by decide))
    rw [show am_min (nI 9999) (nI (a + b)) = nI 9999 from if_neg h, Nat.min_eq_left (by omega)]
theorem sld1_X {C : Nat} {ρ : Row} {X : Xst} (hV : okV ρ) (h : PrR C ρ X) (hF : FxR hd bl gg ρ) {s : Nat} (hs : s < 6) : PrR C (sld1 ρ s) (sl1X bl X s) := by
  obtain ⟨b1, b2, b3, b4, b5⟩ := hF s hs
  intro t ht
  obtain ⟨t1, t2, t3, t4⟩ := h t ht
  obtain ⟨s1, s2, s3, s4⟩ := h s hs
  unfold sld1
  rw [mvp_un _ s hs (by omega) 6 (Nat.le_refl _), mvp_un _ s hs (by omega) 6 (Nat.le_refl _)]
  unfold sldB sl1X
  have eA : ∀ j, j ≠ 8 → j ≠ 9 → (∀ u, u < 6 → j ≠ 10 + 10 * u + 0) → sldA ρ s j = ρ j := fun j h8 h9 hu => by
    unfold sldA
    by_cases hb : bl s < 6
    · obtain ⟨c1, c2⟩ := b3 hb
      rw [c2, if_neg (nI_m1ne (by omega)), pe_clamp (by omega), am_up_ne (hu _ hb)]
    · rw [if_pos (b4 hb)]
      split
      · rw [am_up_ne h9]
      · rw [am_up_ne h8]
  by_cases e : t = s
  · subst e
    refine ⟨?_, ?_, ?_, ?_⟩
    · rw [am_up_ne (by omega), am_up_ne (by omega), am_up_eq]
      show nI 0 = nI (cup _ t 0 t)
      rw [cup_eq]
    · show cup _ t 0 t ≤ 9999
      rw [cup_eq]; omega
    · rw [am_up_ne (by omega), am_up_eq]
      show nI 0 = nI (cup _ t 0 t)
      rw [cup_eq]
    · show cup _ t 0 t ≤ C
      rw [cup_eq]; omega
  · rw [am_up_ne (by omega), am_up_ne (by omega), am_up_ne (by omega), am_up_ne (by omega), am_up_ne (by omega), am_up_ne (by omega), eA (10 + 10 * t + 8) (by omega) (by omega) (fun u hu => by omega)]
    refine ⟨?_, ?_, ?_, ?_⟩
    · show sldA ρ s (10 + 10 * t + 0) = nI (cup _ s 0 t)
      rw [cup_ne e]
      unfold sldA
      by_cases hb : bl s < 6
      · obtain ⟨c1, c2⟩ := b3 hb
        obtain ⟨d1, d2, d3, d4⟩ := h (bl s) hb
        rw [c2, if_neg (nI_m1ne (by omega)), pe_clamp (by omega), if_pos hb]
        by_cases e2 : t = bl s
        · rw [e2, am_up_eq, cup_eq, d1, s1, min9X d2 s2]
        · rw [am_up_ne (by omega), cup_ne e2]; exact t1
      · rw [if_pos (b4 hb), if_neg hb]
        split
        · rw [am_up_ne (by omega)]; exact t1
        · rw [am_up_ne (by omega)]; exact t1
    · show cup _ s 0 t ≤ 9999
      rw [cup_ne e]
      by_cases hb : bl s < 6
      · rw [if_pos hb]
        by_cases e2 : t = bl s
        · rw [e2, cup_eq]; exact Nat.min_le_left _ _
        · rw [cup_ne e2]; exact t2
      · rw [if_neg hb]; exact t2
    · show ρ (10 + 10 * t + 8) = nI (cup _ s 0 t)
      rw [cup_ne e]; exact t3
    · show cup _ s 0 t ≤ C
      rw [cup_ne e]; exact t4
theorem sld1_8X {ρ : Row} {s a : Nat} (hs : s < 6) (ha : ρ (10 + 10 * s + 0) = nI a) (hF : FxR hd bl gg ρ) : sld1 ρ s 8 = ρ 8 + nI (if bl s < 6 ∨ gg s = true then 0 else a) := by
  obtain ⟨b1, b2, b3, b4, b5⟩ := hF s hs
  unfold sld1
  rw [mvp_un _ s hs (by omega) 6 (Nat.le_refl _)]
  unfold sldB
  rw [am_up_ne (by omega), am_up_ne (by omega), am_up_ne (by omega)]
  unfold sldA
  by_cases hb : bl s < 6
  · obtain ⟨c1, c2⟩ := b3 hb
    rw [c2, if_neg (nI_m1ne (by omega)), pe_clamp (by omega), am_up_ne (by omega), if_pos (Or.inl hb)]
    exact (Int32.add_zero _).symm
  · rw [if_pos (b4 hb)]
    by_cases hg : gg s = true
    · rw [if_pos (b5.mp hg), am_up_ne (by decide), if_pos (Or.inr hg)]
      exact (Int32.add_zero _).symm
    · rw [if_neg (fun z => hg (b5.mpr z)), am_up_eq, if_neg (fun z => z.elim hb hg), ha]
/-- the slides of a row, and of snow and strain alone -/
theorem passX {C : Nat} (hC : C ≤ 1500000000) : ∀ (d s : Nat) (ρ : Row) (X : Xst) (sl : Nat → Bool), s + d = 6 → okV ρ → FxR hd bl gg ρ → PrR C ρ X → (∀ t, s ≤ t → t < 6 → sl t = false) → ∃ k, k ≤ 9999 * d ∧ (sldU d s ρ).2 8 = ρ 8 + nI k ∧ (psX hd bl gg d s X sl = none → 0 < k) ∧ ∀ X' sl', psX hd bl gg d s X sl = some (X', sl') → k = 0 ∧ PrR C (sldU d s ρ).2 X' ∧ (∀ t, t < s → sl' t = sl t) ∧ ∀ t, t < 6 → (sldU d s ρ).2 (10 + 10 * t + 9) = if s ≤ t ∧ sl' t = true then ρ (10 + 10 * t + 9) + nI 1 else ρ (10 + 10 * t + 9)
  | 0, s, ρ, X, sl, hd', hV, hF, hP, hsl => by
    refine ⟨0, by omega, (Int32.add_zero _).symm, fun z => (by rw [psX] at z; cases z), fun X' sl' h => ?_⟩
    rw [psX] at h
    cases h
    exact ⟨rfl, hP, fun _ _ => rfl, fun t ht => by rw [if_neg (by omega)]; rfl⟩
  | d + 1, s, ρ, X, sl, hd', hV, hF, hP, hsl => by
    have hs : s < 6 := by omega
    rw [sldU, psX, unst_X hC hP hF hs]
    by_cases e : unX hd X s = true
    · rw [if_pos e, if_pos e]
      have hV1 := sld1_ok hV hs
      have hP1 := sld1_X hV hP hF hs
      have hF1 := hF.ag (agb_sld1 hV hs)
      have ha := (hP s hs).1
      have ha9 := (hP s hs).2.1
      have e8 := sld1_8X hs ha hF
      have ha0 : 0 < X.1 s := by
        unfold unX at e
        rw [Bool.and_eq_true] at e
        exact of_decide_eq_true e.1
      obtain ⟨k, k1, k2, k3, k4⟩ := passX hC d (s + 1) (sld1 ρ s) (sl1X bl X s) (bup sl s true) (by omega) hV1 hF1 hP1 (fun t h1 h2 => by rw [bup_ne (by omega)]; exact hsl t (by omega) h2)
      by_cases e2 : bl s < 6 ∨ gg s = true
      · rw [if_pos e2] at e8
        rw [if_pos e2]
        refine ⟨k, by omega, ?_, k3, fun X' sl' h => ?_⟩
        · show (sldU d (s + 1) (sld1 ρ s)).2 8 = _
          rw [k2, e8, Int32.add_assoc, nI_add, Nat.zero_add]
        · obtain ⟨m1, m2, m3, m4⟩ := k4 X' sl' h
          refine ⟨m1, m2, fun t ht => by rw [m3 t (by omega), bup_ne (by omega)], fun t ht => ?_⟩
          show (sldU d (s + 1) (sld1 ρ s)).2 (10 + 10 * t + 9) = _
          rw [m4 t ht, sld1_9 hV hs ht]
          by_cases e3 : t = s
          · subst e3
            have : sl' t = true := by rw [m3 t (by omega), bup_eq]
            rw [if_neg (by omega), if_pos rfl, if_pos ⟨Nat.le_refl _, this⟩]
          · rw [if_neg e3]
            by_cases e4 : s + 1 ≤ t ∧ sl' t = true
            · rw [if_pos e4, if_pos ⟨by omega, e4.2⟩]
            · rw [if_neg e4, if_neg (fun z => e4 ⟨by omega, z.2⟩)]
      · rw [if_neg e2] at e8
        rw [if_neg e2]
        refine ⟨X.1 s + k, by omega, ?_, fun _ => by omega, fun X' sl' h => by cases h⟩
        show (sldU d (s + 1) (sld1 ρ s)).2 8 = _
        rw [k2, e8, Int32.add_assoc, nI_add]
    · rw [if_neg e, if_neg e]
      obtain ⟨k, k1, k2, k3, k4⟩ := passX hC d (s + 1) ρ X sl (by omega) hV hF hP (fun t h1 h2 => hsl t (by omega) h2)
      refine ⟨k, by omega, k2, k3, fun X' sl' h => ?_⟩
      obtain ⟨m1, m2, m3, m4⟩ := k4 X' sl' h
      refine ⟨m1, m2, fun t ht => m3 t (by omega), fun t ht => ?_⟩
      rw [m4 t ht]
      by_cases e3 : t = s
      · subst e3
        have : ¬ sl' t = true := by rw [m3 t (by omega), hsl t (Nat.le_refl _) ht]; exact Bool.false_ne_true
        rw [if_neg (by omega), if_neg (fun z => this z.2)]
      · by_cases e4 : s + 1 ≤ t ∧ sl' t = true
        · rw [if_pos e4, if_pos ⟨by omega, e4.2⟩]
        · rw [if_neg e4, if_neg (fun z => e4 ⟨by omega, z.2⟩)]
end BRR

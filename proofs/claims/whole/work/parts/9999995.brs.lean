/-! ===== bring: the class speaks ===== -/
def MKs (m : Nat) (sl : Nat → Bool) : Prop := m < 64 ∧ ∀ t, t < 6 → (m / 2 ^ t % 2 = 1 ↔ sl t = true)
theorem mskO : ∀ m, m < 64 → ∀ s, s < 6 → nI m ||| ((1 : Int32) <<< (nI s &&& 31)) = nI (m ||| 2 ^ s) := by decide +kernel
theorem mskB : ∀ m, m < 64 → ∀ s, s < 6 → (m ||| 2 ^ s) < 64 ∧ ∀ t, t < 6 → ((m ||| 2 ^ s) / 2 ^ t % 2 = 1 ↔ (t = s ∨ m / 2 ^ t % 2 = 1)) := by decide +kernel
theorem mskT : ∀ m, m < 64 → ∀ t, t < 6 → ((nI m >>> (nI t &&& 31)) &&& (1 : Int32)) = nI (m / 2 ^ t % 2) := by decide +kernel
theorem mskZ : ∀ m, m < 64 → (m = 0 ↔ ∀ t, t < 6 → ¬ m / 2 ^ t % 2 = 1) := by decide +kernel
theorem MKs.up {m s : Nat} {sl : Nat → Bool} (h : MKs m sl) (hs : s < 6) : MKs (m ||| 2 ^ s) (bup sl s true) := by
  obtain ⟨h1, h2⟩ := h
  obtain ⟨b1, b2⟩ := mskB m h1 s hs
  refine ⟨b1, fun t ht => ?_⟩
  rw [b2 t ht]
  by_cases e : t = s
  · subst e; rw [bup_eq]; exact ⟨fun _ => rfl, fun _ => Or.inl rfl⟩
  · rw [bup_ne e, ← h2 t ht]
    exact ⟨fun z => z.resolve_left e, Or.inr⟩
section SPK
variable {O pl tg : Nat} {op : Nat → Bool} {SH : Nat → Nat → Nat → Nat} {hd bl : Nat → Nat} {gg ld : Nat → Bool}
/-- only snow and strain of level v are written -/
def FLv (v : Nat) (g g' : am_G) : Prop := g'.2 = g.2 ∧ ∀ a j, ¬ ((a = 58 ∨ a = 59) ∧ 6 * v ≤ j ∧ j < 6 * v + 6) → am_I g' a j = am_I g a j
theorem FLv.rf (v : Nat) (g : am_G) : FLv v g g := ⟨rfl, fun _ _ _ => rfl⟩
theorem FLv.tr {v : Nat} {g h i : am_G} (h1 : FLv v g h) (h2 : FLv v h i) : FLv v g i := ⟨h2.1.trans h1.1, fun a j x => (h2.2 a j x).trans (h1.2 a j x)⟩
theorem FLv.si {v : Nat} {g h : am_G} (h1 : FLv v g h) {a j : Nat} (ha : a = 58 ∨ a = 59) (hj : 6 * v ≤ j ∧ j < 6 * v + 6) (x : Int32) : FLv v g (am_si h a j x) := ⟨h1.1, fun b i y => by rw [pI_si, if_neg (fun z => y ⟨by rw [z.1]; exact ha, by omega⟩)]; exact h1.2 b i y⟩
theorem spkL10 {C v o : Nat} {X : Xst} (hv : v < 3) (hC : C ≤ 1500000000) (ho : o < O) (hO : O ≤ 48) (hop : op o = true) (hSH1 : ∀ o s a, SH o s a ≤ 999) : ∀ (e s m : Nat) (g : am_G), s + e = 6 → e < m → LvX C v g X → LkX O op SH v g X 6 → (∀ t, t < s → am_I g 58 (6 * (v + 1) + t) = nI (X.1 t) ∧ am_I g 59 (6 * (v + 1) + t) = nI (X.2 t + SH o t (X.1 t))) → ∃ g', (∀ K, fX1_speak_L10 K (nI v) (nI o) (nI (6 * (v + 1))) m (nI s) g = K g') ∧ FLv (v + 1) g g' ∧ LvX (C + 999) (v + 1) g' (prsX SH o X)
  | 0, s, m, g, he, hm, hL, hK, hs => by
    obtain ⟨m, rfl⟩ : ∃ m', m = m' + 1 := ⟨m - 1, by omega⟩
    obtain rfl : s = 6 := by omega
    refine ⟨g, fun K => ?_, FLv.rf _ g, fun t ht => ⟨(hs t ht).1, (hL t ht).2.1, (hs t ht).2, ?_⟩⟩
    · rw [fX1_speak_L10, if_pos (show (6 : Int32) ≤ nI 6 by decide)]
    · have h1 := (hL t ht).2.2.2
      have h2 := hSH1 o t (X.1 t)
      show X.2 t + SH o t (X.1 t) ≤ C + 999
      omega
  | e + 1, s, m, g, he, hm, hL, hK, hs => by
    obtain ⟨m, rfl⟩ : ∃ m', m = m' + 1 := ⟨m - 1, by omega⟩
    have hs6 : s < 6 := by omega
    obtain ⟨x1, x2, x3, x4⟩ := hL s hs6
    obtain ⟨i, i1, i2, u1, u2, u3⟩ := hK s hs6
    have u2o := u2 o ho hop
    have e48 : nI (4 * s + i) * (48 : Int32) + nI o = nI (48 * (4 * s + i) + o) := by rw [show (48 : Int32) = nI 48 from rfl, nn_mul, nI_add, Nat.mul_comm]
    have f1 : FLv (v + 1) g (am_si (am_si g 58 (6 * (v + 1) + s) (nI (X.1 s))) 59 (6 * (v + 1) + s) (nI (X.2 s + SH o s (X.1 s)))) := ((FLv.rf _ g).si (Or.inl rfl) (by omega) _).si (Or.inr rfl) (by omega) _
    obtain ⟨g', b1, b2, b3⟩ := spkL10 hv hC ho hO hop hSH1 e (s + 1) m _ (by omega) (by omega) (fun t ht => by rw [f1.2 58 _ (by omega), f1.2 59 _ (by omega)]; exact hL t ht) (fun t ht => by
      obtain ⟨j, j1, j2, j3⟩ := hK t ht
      exact ⟨j, j1, by rw [f1.2 60 _ (by omega)]; exact j2, j3.cg (f1.2 54 _ (by omega)) (f1.2 55 _ (by omega)) (fun o _ => f1.2 57 _ (by omega))⟩) (fun t ht => by
      by_cases z : t = s
      · subst z; rw [pe_ine (show (58 : Nat) ≠ 59 by decide), pe_ieq, pe_ieq]; exact ⟨rfl, rfl⟩
      · rw [pe_ine (show (58 : Nat) ≠ 59 by decide), pe_ik (by omega), pe_ik (by omega), pe_ine (by decide)]
        exact hs t (by omega))
    refine ⟨g', fun K => ?_, f1.tr b2, b3⟩
    rw [fX1_speak_L10, if_neg (show ¬ (6 : Int32) ≤ nI s from fun z => absurd ((nI_leI (a := 6) (by decide) (by omega)).mp z) (by omega)), i6, nI_add, pu_let, pe_gd (show 6 * v + s < 24 by omega) (by decide), pe_gd (show 6 * (v + 1) + s < 24 by omega) (by decide), pu_let, pe_gd (show 6 * v + s < 24 by omega) (by decide), pe_gd (show 6 * v + s < 18 by omega) (by decide), pe_clamp (show 6 * v + s < 2147483648 by omega), pe_clamp (show 6 * (v + 1) + s < 2147483648 by omega), x1, pe_ine (show (60 : Nat) ≠ 58 by decide), i2, e48, pe_gd (show 48 * (4 * s + i) + o < 1152 by omega) (by decide), pe_gd (show 6 * (v + 1) + s < 24 by omega) (by decide), pu_let, pe_clamp (show 48 * (4 * s + i) + o < 2147483648 by omega), pe_ine (show (59 : Nat) ≠ 58 by decide), pe_ine (show (57 : Nat) ≠ 58 by decide), x3, u2o, nI_add, pu_let, show nI s + (1 : Int32) = nI (s + 1) from nI_add s 1]
    exact b1 K
theorem spkL88 {C v : Nat} (hv : v < 4) (hC : C ≤ 1500000000) : ∀ (e s m mq : Nat) (g : am_G) (X : Xst) (sl : Nat → Bool), s + e = 6 → e < m → FxC tg hd bl gg ld g → LvX C v g X → MKs mq sl → (psX hd bl gg e s X sl = none → ∃ g', fX1_speak_L88 (nI (6 * v)) m (nI mq) (nI s) g = some (-1, g') ∧ FLv v g g') ∧ ∀ X' sl', psX hd bl gg e s X sl = some (X', sl') → ∃ g' mq', fX1_speak_L88 (nI (6 * v)) m (nI mq) (nI s) g = some (nI mq', g') ∧ FLv v g g' ∧ MKs mq' sl' ∧ LvX C v g' X'
  | 0, s, m, mq, g, X, sl, he, hm, hF, hL, hM => by
    obtain ⟨m, rfl⟩ : ∃ m', m = m' + 1 := ⟨m - 1, by omega⟩
    obtain rfl : s = 6 := by omega
    refine ⟨fun z => (by rw [psX] at z; cases z), fun X' sl' h => ?_⟩
    rw [psX] at h
    cases h
    refine ⟨g, mq, ?_, FLv.rf v g, hM, hL⟩
    rw [fX1_speak_L88, if_pos (show (6 : Int32) ≤ nI 6 by decide)]
  | e + 1, s, m, mq, g, X, sl, he, hm, hF, hL, hM => by
    obtain ⟨m, rfl⟩ : ∃ m', m = m' + 1 := ⟨m - 1, by omega⟩
    have hs6 : s < 6 := by omega
    obtain ⟨x1, x2, x3, x4⟩ := hL s hs6
    obtain ⟨f1, f2, f3, f4, f5, -⟩ := hF.2 s hs6
    have es : nI s + (1 : Int32) = nI (s + 1) := nI_add s 1
    rw [psX, fX1_speak_L88, if_neg (show ¬ (6 : Int32) ≤ nI s from fun z => absurd ((nI_leI (a := 6) (by decide) (by omega)).mp z) (by omega)), nI_add, pu_let, pe_gd (show 6 * v + s < 24 by omega) (by decide), pu_jn]
    dsimp only
    rw [pe_clamp (show 6 * v + s < 2147483648 by omega), x1]
    by_cases h0 : X.1 s = 0
    · have hu : ¬ unX hd X s = true := by unfold unX; rw [h0]; exact Bool.false_ne_true
      rw [if_neg hu, if_pos (by rw [h0]; rfl), pu_let, es]
      exact spkL88 hv hC e (s + 1) m mq g X sl (by omega) (by omega) hF hL hM
    · rw [if_neg (show ¬ nI (X.1 s) = (0 : Int32) from fun z => h0 ((nn_eq (b := 0) (by omega) (by decide)).mp z)), pe_gd (show 6 * v + s < 24 by omega) (by decide), pe_gd (show 6 * v + s < 24 by omega) (by decide), pe_gd (show s < 6 from hs6) (by decide), pe_clamp (show s < 2147483648 by omega), f2, x3, nI_add]
      by_cases h1 : hd s < X.1 s + X.2 s
      · have hu : unX hd X s = true := by unfold unX; rw [decide_eq_true (show 0 < X.1 s by omega), decide_eq_true h1]; rfl
        rw [if_pos hu, if_pos (nI_lt h1 (by omega)), pe_gd (show s < 6 from hs6) (by decide), pu_let, q11_isSlope, pu_bd, pu_jn]
        dsimp only
        -- behind the snow that has gone on
        have fin : ∀ (g1 : am_G) (Y : Nat → Nat), FLv v g g1 → (∀ t, t < 6 → t ≠ s → am_I g1 58 (6 * v + t) = nI (Y t) ∧ Y t ≤ 9999) → (∀ t, t < 6 → am_I g1 59 (6 * v + t) = nI (X.2 t)) → (sl1X bl X s).1 = cup Y s 0 → (psX hd bl gg e (s + 1) (sl1X bl X s) (bup sl s true) = none → ∃ g', (am_gd (am_in (nI (6 * v + s)) 24) <| am_let (am_si g1 58 (6 * v + s) (0 : Int32)) fun g41 => am_gd (am_in (nI (6 * v + s)) 24) <| am_let (am_si g41 59 (6 * v + s) (0 : Int32)) fun g43 => am_let (nI mq ||| ((1 : Int32) <<< (nI s &&& 31))) fun x44 => am_let (nI s + (1 : Int32)) fun x27 => fX1_speak_L88 (nI (6 * v)) m x44 x27 g43) = some (-1, g') ∧ FLv v g g') ∧ ∀ X' sl', psX hd bl gg e (s + 1) (sl1X bl X s) (bup sl s true) = some (X', sl') → ∃ g' mq', (am_gd (am_in (nI (6 * v + s)) 24) <| am_let (am_si g1 58 (6 * v + s) (0 : Int32)) fun g41 => am_gd (am_in (nI (6 * v + s)) 24) <| am_let (am_si g41 59 (6 * v + s) (0 : Int32)) fun g43 => am_let (nI mq ||| ((1 : Int32) <<< (nI s &&& 31))) fun x44 => am_let (nI s + (1 : Int32)) fun x27 => fX1_speak_L88 (nI (6 * v)) m x44 x27 g43) = some (nI mq', g') ∧ FLv v g g' ∧ MKs mq' sl' ∧ LvX C v g' X' := by
          intro g1 Y k1 k2 k3 k4
          have f2' : FLv v g (am_si (am_si g1 58 (6 * v + s) (0 : Int32)) 59 (6 * v + s) (0 : Int32)) := (k1.si (Or.inl rfl) (by omega) _).si (Or.inr rfl) (by omega) _
          have hF' : FxC tg hd bl gg ld (am_si (am_si g1 58 (6 * v + s) (0 : Int32)) 59 (6 * v + s) (0 : Int32)) := hF.cg ⟨f2'.1, fun a _ _ z => funext fun j => f2'.2 a j (by omega)⟩ (funext fun j => f2'.2 51 j (by omega)) (funext fun j => f2'.2 53 j (by omega))
          have hL' : LvX C v (am_si (am_si g1 58 (6 * v + s) (0 : Int32)) 59 (6 * v + s) (0 : Int32)) (sl1X bl X s) := fun t ht => by
            have e2 : (sl1X bl X s).2 t = if t = s then 0 else X.2 t := rfl
            rw [pe_ine (show (58 : Nat) ≠ 59 by decide), k4, e2]
            by_cases z : t = s
            · subst z
              rw [pe_ieq, pe_ieq, cup_eq, if_pos rfl]
              exact ⟨rfl, by omega, rfl, by omega⟩
            · rw [pe_ik (by omega), pe_ik (by omega), pe_ine (by decide), cup_ne z, if_neg z]
              exact ⟨(k2 t ht z).1, (k2 t ht z).2, k3 t ht, (hL t ht).2.2.2⟩
          obtain ⟨r1, r2⟩ := spkL88 hv hC e (s + 1) m (mq ||| 2 ^ s) _ (sl1X bl X s) (bup sl s true) (by omega) (by omega) hF' hL' (hM.up hs6)
          rw [pe_gd (show 6 * v + s < 24 by omega) (by decide), pu_let, pe_gd (show 6 * v + s < 24 by omega) (by decide), pu_let, pu_let, pu_let, mskO mq hM.1 s hs6, es]
          refine ⟨fun z => ?_, fun X' sl' z => ?_⟩
          · obtain ⟨g', y1, y2⟩ := r1 z
            exact ⟨g', y1, f2'.tr y2⟩
          · obtain ⟨g', mq', y1, y2, y3, y4⟩ := r2 X' sl' z
            exact ⟨g', mq', y1, f2'.tr y2, y3, y4⟩
        by_cases hb : bl s < 6
        · obtain ⟨c1, c2⟩ := f3 hb
          obtain ⟨z1, z2, z3, z4⟩ := hL (bl s) hb
          rw [if_pos (Or.inl hb), c2, pb_t (show nI 0 ≤ nI (bl s) ∧ nI (bl s) ≤ nI 5 from ⟨(nI_leI (by decide) (by omega)).mpr (by omega), (nI_leI (by omega) (by decide)).mpr (by omega)⟩), if_neg (show ¬ nI 1 = (0 : Int32) by decide), nI_add, pe_gd (show 6 * v + bl s < 24 by omega) (by decide), pe_gd (show 6 * v + s < 24 by omega) (by decide), pe_gd (show 6 * v + bl s < 24 by omega) (by decide), pu_let, pe_clamp (show 6 * v + bl s < 2147483648 by omega), x1, z1, show am_min (9999 : Int32) (nI (X.1 (bl s)) + nI (X.1 s)) = nI (min 9999 (X.1 (bl s) + X.1 s)) from min9X z2 x2]
          refine fin _ (cup X.1 (bl s) (min 9999 (X.1 (bl s) + X.1 s))) ((FLv.rf v g).si (Or.inl rfl) (by omega) _) (fun t ht hne => ?_) (fun t ht => by rw [pe_ine (by decide)]; exact (hL t ht).2.2.1) (by unfold sl1X; rw [if_pos hb])
          by_cases y : t = bl s
          · rw [y, pe_ieq, cup_eq]; exact ⟨rfl, Nat.min_le_left _ _⟩
          · rw [pe_ik (by omega), cup_ne y]; exact ⟨(hL t ht).1, (hL t ht).2.1⟩
        · rw [f4 hb, pb_f (show ¬ (nI 0 ≤ (-1 : Int32) ∧ (-1 : Int32) ≤ nI 5) by decide), if_pos (show nI 0 = (0 : Int32) from rfl), pe_gd (show s < 6 from hs6) (by decide)]
          by_cases hg : gg s = true
          · rw [if_pos (Or.inr hg), if_pos (show am_I g 10 s = (1 : Int32) from f5.mp hg)]
            exact fin g X.1 (FLv.rf v g) (fun t ht _ => ⟨(hL t ht).1, (hL t ht).2.1⟩) (fun t ht => (hL t ht).2.2.1) (by unfold sl1X; rw [if_neg hb])
          · rw [if_neg (fun z => z.elim hb hg), if_neg (show ¬ am_I g 10 s = (1 : Int32) from fun z => hg (f5.mpr z))]
            exact ⟨fun _ => ⟨g, rfl, FLv.rf v g⟩, fun X' sl' z => by cases z⟩
      · have hu : ¬ unX hd X s = true := by unfold unX; rw [decide_eq_false h1, Bool.and_false]; exact Bool.false_ne_true
        rw [if_neg hu, if_neg (fun z => h1 ((nI_ltI (by omega) (by omega)).mp z)), pu_let, es]
        exact spkL88 hv hC e (s + 1) m mq g X sl (by omega) (by omega) hF hL hM
theorem q1_speak {C v o : Nat} {X : Xst} {g : am_G} (hv : v < 3) (hC : C + 999 ≤ 1500000000) (ho : o < O) (hO : O ≤ 48) (hop : op o = true) (hSH1 : ∀ o s a, SH o s a ≤ 999) (hF : FxC tg hd bl gg ld g) (hL : LvX C v g X) (hK : LkX O op SH v g X 6) : (stepX SH hd bl gg o X = none → ∃ g', fX1_speak (nI v) (nI o) g = some (-1, g') ∧ FLv (v + 1) g g') ∧ ∀ X' sl', stepX SH hd bl gg o X = some (X', sl') → ∃ g' mq', fX1_speak (nI v) (nI o) g = some (nI mq', g') ∧ FLv (v + 1) g g' ∧ MKs mq' sl' ∧ LvX (C + 999) (v + 1) g' X' := by
  have hfu : am_fu = 1048576 := rfl
  obtain ⟨g1, b1, b2, b3⟩ := spkL10 hv (by omega) ho hO hop hSH1 6 0 am_fu g (by omega) (by omega) hL hK (fun t ht => absurd ht (by omega))
  have hF1 : FxC tg hd bl gg ld g1 := hF.cg ⟨b2.1, fun a _ _ z => funext fun j => b2.2 a j (by omega)⟩ (funext fun j => b2.2 51 j (by omega)) (funext fun j => b2.2 53 j (by omega))
  obtain ⟨r1, r2⟩ := spkL88 (v := v + 1) (by omega) hC 6 0 am_fu 0 g1 (prsX SH o X) (fun _ => false) (by omega) (by omega) hF1 b3 ⟨by decide, fun t ht => ⟨fun z => absurd z (by rw [Nat.zero_div]; decide), fun z => absurd z Bool.false_ne_true⟩⟩
  have e : fX1_speak (nI v) (nI o) g = fX1_speak_L88 (nI (6 * (v + 1))) am_fu (nI 0) (nI 0) g1 := by
    unfold fX1_speak
    rw [show nI v + (1 : Int32) = nI (v + 1) from nI_add v 1, show nI (v + 1) * (6 : Int32) = nI (6 * (v + 1)) by rw [show (6 : Int32) = nI 6 from rfl, nn_mul, Nat.mul_comm], pu_let]
    exact b1 _
  rw [e]
  refine ⟨fun z => ?_, fun X' sl' z => ?_⟩
  · obtain ⟨g', y1, y2⟩ := r1 z
    exact ⟨g', y1, b2.tr y2⟩
  · obtain ⟨g', mq', y1, y2, y3, y4⟩ := r2 X' sl' z
    exact ⟨g', mq', y1, b2.tr y2, y3, y4⟩
end SPK

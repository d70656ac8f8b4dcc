/-! ===== bring: pure ===== -/
abbrev Xst := (Nat → Nat) × (Nat → Nat)
def bup (c : Nat → Bool) (k : Nat) (w : Bool) : Nat → Bool := fun j => if j = k then w else c j
theorem bup_eq (c : Nat → Bool) (k : Nat) (w : Bool) : bup c k w k = w := if_pos rfl
theorem bup_ne {c : Nat → Bool} {k j : Nat} {w : Bool} (h : j ≠ k) : bup c k w j = c j := if_neg h
def prsX (SH : Nat → Nat → Nat → Nat) (o : Nat) (X : Xst) : Xst := (X.1, fun s => X.2 s + SH o s (X.1 s))
def unX (hd : Nat → Nat) (X : Xst) (s : Nat) : Bool := decide (0 < X.1 s) && decide (hd s < X.1 s + X.2 s)
/-- below: 6 if nothing is -/
def sl1X (bl : Nat → Nat) (X : Xst) (s : Nat) : Xst := (cup (if bl s < 6 then cup X.1 (bl s) (min 9999 (X.1 (bl s) + X.1 s)) else X.1) s 0, cup X.2 s 0)
def psX (hd bl : Nat → Nat) (gg : Nat → Bool) : Nat → Nat → Xst → (Nat → Bool) → Option (Xst × (Nat → Bool))
  | 0, _, X, sl => some (X, sl)
  | d + 1, s, X, sl => if unX hd X s = true then (if bl s < 6 ∨ gg s = true then psX hd bl gg d (s + 1) (sl1X bl X s) (bup sl s true) else none) else psX hd bl gg d (s + 1) X sl
def stepX (SH : Nat → Nat → Nat → Nat) (hd bl : Nat → Nat) (gg : Nat → Bool) (o : Nat) (X : Xst) : Option (Xst × (Nat → Bool)) := psX hd bl gg 6 0 (prsX SH o X) (fun _ => false)
def fstO (T : Nat → Option (List Nat)) : Nat → Nat → Option (List Nat)
  | 0, _ => none
  | m + 1, o => match T o with
    | some l => some l
    | none => fstO T m (o + 1)
theorem fstO_none {T : Nat → Option (List Nat)} : ∀ {m o : Nat}, fstO T m o = none ↔ ∀ x, o ≤ x → x < o + m → T x = none
  | 0, o => ⟨fun _ x h1 h2 => absurd h2 (by omega), fun _ => rfl⟩
  | m + 1, o => by
    rw [fstO]
    cases h : T o with
    | some l => exact ⟨fun z => (by cases z), fun z => (by rw [z o (Nat.le_refl _) (by omega)] at h; cases h)⟩
    | none =>
      show fstO T m (o + 1) = none ↔ _
      rw [fstO_none (m := m) (o := o + 1)]
      constructor
      · intro z x h1 h2
        by_cases e : x = o
        · subst e; exact h
        · exact z x (by omega) (by omega)
      · intro z x h1 h2
        exact z x (by omega) (by omega)
theorem fstO_cg {T T' : Nat → Option (List Nat)} : ∀ {m o : Nat}, (∀ x, o ≤ x → x < o + m → T x = T' x) → fstO T m o = fstO T' m o
  | 0, o, _ => rfl
  | m + 1, o, h => by
    rw [fstO, fstO, h o (Nat.le_refl _) (by omega), fstO_cg (m := m) (o := o + 1) fun x h1 h2 => h x (by omega) (by omega)]
section BRP
variable {O tg : Nat} {op : Nat → Bool} {SH : Nat → Nat → Nat → Nat} {hd bl : Nat → Nat} {gg : Nat → Bool}
/-- what one option leads to -/
def tryX (op : Nat → Bool) (SH : Nat → Nat → Nat → Nat) (hd bl : Nat → Nat) (gg : Nat → Bool) (tg : Nat) (mid : Bool) (G : Option (Xst → Option (List Nat))) (X : Xst) (o : Nat) : Option (List Nat) :=
  if op o = true then (match stepX SH hd bl gg o X with
    | none => none
    | some (X', sl) => match G with
      | none => if sl tg = true then some [o] else none
      | some G => if mid = true ∧ sl tg = true then none else (G X').map (fun l => o :: l)) else none
/-- by just d words: mid: the target may not have slid before -/
def brX (O : Nat) (op : Nat → Bool) (SH : Nat → Nat → Nat → Nat) (hd bl : Nat → Nat) (gg : Nat → Bool) (tg : Nat) (mid : Bool) : Nat → Xst → Option (List Nat)
  | 0, _ => none
  | 1, X => fstO (tryX op SH hd bl gg tg mid none X) O 0
  | d + 2, X => fstO (tryX op SH hd bl gg tg mid (some (brX O op SH hd bl gg tg mid (d + 1))) X) O 0
/-- fewer words do not do: then none slides before its time -/
theorem brX_mid : ∀ (d : Nat) (X : Xst), (∀ m, 1 ≤ m → m < d → brX O op SH hd bl gg tg true m X = none) → brX O op SH hd bl gg tg true d X = brX O op SH hd bl gg tg false d X
  | 0, X, _ => rfl
  | 1, X, _ => by
    rw [brX, brX]
    exact fstO_cg fun x _ _ => rfl
  | d + 2, X, h => by
    rw [brX, brX]
    refine fstO_cg fun o h1 h2 => ?_
    unfold tryX
    by_cases ho : op o = true
    · rw [if_pos ho, if_pos ho]
      cases hs : stepX SH hd bl gg o X with
      | none => rfl
      | some z =>
        obtain ⟨X', sl⟩ := z
        have n1 := fstO_none.mp (show fstO (tryX op SH hd bl gg tg true none X) O 0 = none from h 1 (by omega) (by omega)) o h1 h2
        unfold tryX at n1
        rw [if_pos ho, hs] at n1
        have hsl : ¬ sl tg = true := fun z => by
          have n1 : (if sl tg = true then some [o] else none) = none := n1
          rw [if_pos z] at n1
          cases n1
        show (if true = true ∧ sl tg = true then none else (brX O op SH hd bl gg tg true (d + 1) X').map _) = (if false = true ∧ sl tg = true then none else (brX O op SH hd bl gg tg false (d + 1) X').map _)
        rw [if_neg (fun z => hsl z.2), if_neg (fun z => hsl z.2), brX_mid (d + 1) X']
        intro m m1 m2
        have n2 := h (m + 1) (by omega) (by omega)
        obtain ⟨m, rfl⟩ : ∃ m', m = m' + 1 := ⟨m - 1, by omega⟩
        rw [brX] at n2
        have n3 := fstO_none.mp n2 o h1 h2
        unfold tryX at n3
        rw [if_pos ho, hs] at n3
        have n3 : (if true = true ∧ sl tg = true then none else (brX O op SH hd bl gg tg true (m + 1) X').map (fun l => o :: l)) = none := n3
        rw [if_neg (fun z => hsl z.2)] at n3
        cases hb : brX O op SH hd bl gg tg true (m + 1) X' with
        | none => rfl
        | some l => rw [hb] at n3; cases n3
    · rw [if_neg ho, if_neg ho]
/-! what cannot be reached -/
def LdX (bl : Nat → Nat) (tg : Nat) (ld : Nat → Bool) : Prop := ld tg = true ∧ ∀ s, s < 6 → bl s < 6 → ld (bl s) = true → ld s = true
theorem psX_ld {ld : Nat → Bool} (hld : LdX bl tg ld) (hbl : ∀ s, s < 6 → bl s < 6 → s < bl s) : ∀ (d s : Nat) (X : Xst) (sl : Nat → Bool), s + d = 6 → (∀ t, s ≤ t → t < 6 → ld t = true → unX hd X t = false) → ∀ X' sl', psX hd bl gg d s X sl = some (X', sl') → (∀ t, t < 6 → ld t = true → sl' t = sl t ∧ X'.1 t = X.1 t ∧ X'.2 t = X.2 t)
  | 0, s, X, sl, _, _, X', sl', h => by
    rw [psX] at h
    cases h
    exact fun t _ _ => ⟨rfl, rfl, rfl⟩
  | d + 1, s, X, sl, hd', hu, X', sl', h => by
    rw [psX] at h
    by_cases e : unX hd X s = true
    · rw [if_pos e] at h
      have hs : ¬ ld s = true := fun z => by rw [hu s (Nat.le_refl _) (by omega) z] at e; cases e
      by_cases e2 : bl s < 6 ∨ gg s = true
      · rw [if_pos e2] at h
        have same : ∀ t, t < 6 → ld t = true → (sl1X bl X s).1 t = X.1 t ∧ (sl1X bl X s).2 t = X.2 t := fun t ht hl => by
          have hts : t ≠ s := fun z => hs (z ▸ hl)
          unfold sl1X
          refine ⟨?_, cup_ne hts⟩
          show cup (if bl s < 6 then cup X.1 (bl s) (min 9999 (X.1 (bl s) + X.1 s)) else X.1) s 0 t = X.1 t
          rw [cup_ne hts]
          by_cases e3 : bl s < 6
          · rw [if_pos e3, cup_ne (fun z => hs (hld.2 s (by omega) e3 (by rw [← z]; exact hl)))]
          · rw [if_neg e3]
        have ih := psX_ld hld hbl d (s + 1) _ _ (by omega) (fun t h1 h2 h3 => by
          have := same t h2 h3
          unfold unX
          rw [this.1, this.2]
          exact hu t (by omega) h2 h3) X' sl' h
        intro t ht hl
        obtain ⟨i1, i2, i3⟩ := ih t ht hl
        obtain ⟨j1, j2⟩ := same t ht hl
        exact ⟨i1.trans (bup_ne fun z => hs (z ▸ hl)), i2.trans j1, i3.trans j2⟩
      · rw [if_neg e2] at h; cases h
    · rw [if_neg e] at h
      exact psX_ld hld hbl d (s + 1) X sl (by omega) (fun t h1 h2 h3 => hu t (by omega) h2 h3) X' sl' h
/-- no slope that leads there can slide by that -/
theorem noHit {ld : Nat → Bool} {o : Nat} {X X' : Xst} {sl : Nat → Bool} (htg : tg < 6) (hld : LdX bl tg ld) (hbl : ∀ s, s < 6 → bl s < 6 → s < bl s) (h : ∀ t, t < 6 → ld t = true → ¬ (0 < X.1 t ∧ hd t < X.1 t + X.2 t + SH o t (X.1 t))) (hs : stepX SH hd bl gg o X = some (X', sl)) : sl tg = false ∧ ∀ t, t < 6 → ld t = true → X'.1 t = X.1 t ∧ X'.2 t = X.2 t + SH o t (X.1 t) := by
  have := psX_ld (hd := hd) (gg := gg) hld hbl 6 0 (prsX SH o X) (fun _ => false) (by decide) (fun t _ h2 h3 => by
    unfold unX prsX
    have := h t h2 h3
    by_cases e : 0 < X.1 t
    · rw [decide_eq_true e, Bool.true_and]
      exact decide_eq_false fun z => this ⟨e, by have z : hd t < X.1 t + (X.2 t + SH o t (X.1 t)) := z; omega⟩
    · rw [decide_eq_false e, Bool.false_and]) X' sl hs
  exact ⟨(this tg htg hld.1).1, fun t h1 h2 => (this t h1 h2).2⟩
theorem noReach {ld : Nat → Bool} {mx : Nat → Nat → Nat} (htg : tg < 6) (hld : LdX bl tg ld) (hbl : ∀ s, s < 6 → bl s < 6 → s < bl s) (hmx : ∀ o, o < O → op o = true → ∀ t, t < 6 → ∀ a, SH o t a ≤ mx t a) : ∀ (d : Nat) (X : Xst), (∀ t, t < 6 → ld t = true → ¬ (0 < X.1 t ∧ hd t < X.1 t + X.2 t + d * mx t (X.1 t))) → brX O op SH hd bl gg tg false d X = none
  | 0, X, _ => rfl
  | d + 1, X, h => by
    have one : ∀ o, o < O → op o = true → ∀ t, t < 6 → ld t = true → ¬ (0 < X.1 t ∧ hd t < X.1 t + X.2 t + SH o t (X.1 t)) := fun o ho hop t ht hl z => by
      have h1 := hmx o ho hop t ht (X.1 t)
      refine h t ht hl ⟨z.1, ?_⟩
      rw [Nat.add_mul, Nat.one_mul]
      omega
    have tn : ∀ o, 0 ≤ o → o < 0 + O → tryX op SH hd bl gg tg false (match d with | 0 => none | d + 1 => some (brX O op SH hd bl gg tg false (d + 1))) X o = none := by
      intro o _ ho
      unfold tryX
      by_cases hop : op o = true
      · rw [if_pos hop]
        cases hs : stepX SH hd bl gg o X with
        | none => rfl
        | some z =>
          obtain ⟨X', sl⟩ := z
          obtain ⟨n1, n2⟩ := noHit htg hld hbl (one o (by omega) hop) hs
          cases d with
          | zero =>
            show (if sl tg = true then some [o] else none) = none
            rw [n1]
            rfl
          | succ d =>
            have ih := noReach htg hld hbl hmx (d + 1) X' (fun t ht hl z => by
              obtain ⟨m1, m2⟩ := n2 t ht hl
              rw [m1, m2] at z
              have h1 := hmx o (by omega) hop t ht (X.1 t)
              refine h t ht hl ⟨z.1, ?_⟩
              have := z.2
              rw [Nat.add_mul, Nat.one_mul]
              omega)
            show (if false = true ∧ sl tg = true then none else (brX O op SH hd bl gg tg false (d + 1) X').map (fun l => o :: l)) = none
            rw [ih, if_neg (fun z => by cases z.1)]
            rfl
      · rw [if_neg hop]
    cases d with
    | zero => rw [brX]; exact fstO_none.mpr tn
    | succ d => rw [brX]; exact fstO_none.mpr tn
/-! two that are calm -/
theorem psX_calm : ∀ (d s : Nat) (X : Xst) (sl : Nat → Bool), s + d = 6 → (∀ t, s ≤ t → t < 6 → unX hd X t = false) → psX hd bl gg d s X sl = some (X, sl)
  | 0, s, X, sl, _, _ => rfl
  | d + 1, s, X, sl, hd', hu => by
    rw [psX, if_neg (by rw [hu s (Nat.le_refl _) (by omega)]; exact Bool.false_ne_true)]
    exact psX_calm d (s + 1) X sl (by omega) (fun t h1 h2 => hu t (by omega) h2)
theorem psX_no : ∀ (d s : Nat) (X : Xst) (sl : Nat → Bool) (X' : Xst) (sl' : Nat → Bool), s + d = 6 → psX hd bl gg d s X sl = some (X', sl') → (∀ t, s ≤ t → t < 6 → sl' t = false) → X' = X ∧ (∀ t, s ≤ t → t < 6 → unX hd X t = false)
  | 0, s, X, sl, X', sl', hd', h, _ => by
    rw [psX] at h
    cases h
    exact ⟨rfl, fun t h1 h2 => absurd h2 (by omega)⟩
  | d + 1, s, X, sl, X', sl', hd', h, hn => by
    rw [psX] at h
    by_cases e : unX hd X s = true
    · rw [if_pos e] at h
      by_cases e2 : bl s < 6 ∨ gg s = true
      · rw [if_pos e2] at h
        have keep : ∀ (d s : Nat) (X : Xst) (sl : Nat → Bool) (X' : Xst) (sl' : Nat → Bool) (t : Nat), t < s → psX hd bl gg d s X sl = some (X', sl') → sl' t = sl t := by
          intro d
          induction d with
          | zero => intro s X sl X' sl' t _ h; rw [psX] at h; cases h; rfl
          | succ d ih =>
            intro s X sl X' sl' t ht h
            rw [psX] at h
            by_cases e : unX hd X s = true
            · rw [if_pos e] at h
              by_cases e2 : bl s < 6 ∨ gg s = true
              · rw [if_pos e2] at h
                rw [ih (s + 1) _ _ X' sl' t (by omega) h, bup_ne (by omega)]
              · rw [if_neg e2] at h; cases h
            · rw [if_neg e] at h
              exact ih (s + 1) X sl X' sl' t (by omega) h
        have h1 := keep d (s + 1) _ _ X' sl' s (by omega) h
        rw [bup_eq, hn s (Nat.le_refl _) (by omega)] at h1
        cases h1
      · rw [if_neg e2] at h; cases h
    · rw [if_neg e] at h
      obtain ⟨a1, a2⟩ := psX_no d (s + 1) X sl X' sl' (by omega) h (fun t h1 h2 => hn t (by omega) h2)
      refine ⟨a1, fun t h1 h2 => ?_⟩
      by_cases z : t = s
      · subst z; exact Bool.eq_false_iff.mpr e
      · exact a2 t (by omega) h2
theorem calm2 {o p : Nat} {X X' X'' : Xst} {sl sl' : Nat → Bool} (h1 : stepX SH hd bl gg p X = some (X', sl)) (c1 : ∀ t, t < 6 → sl t = false) (h2 : stepX SH hd bl gg o X' = some (X'', sl')) (c2 : ∀ t, t < 6 → sl' t = false) : ∃ Y s1 s2, stepX SH hd bl gg o X = some (Y, s1) ∧ stepX SH hd bl gg p Y = some (X'', s2) := by
  obtain ⟨e1, u1⟩ := psX_no 6 0 _ _ X' sl (by decide) h1 (fun t _ ht => c1 t ht)
  obtain ⟨e2, u2⟩ := psX_no 6 0 _ _ X'' sl' (by decide) h2 (fun t _ ht => c2 t ht)
  have un : ∀ t, t < 6 → ¬ (0 < X.1 t ∧ hd t < X.1 t + (X.2 t + SH p t (X.1 t) + SH o t (X.1 t))) := fun t ht z => by
    have := u2 t (by omega) ht
    rw [e1] at this
    unfold unX prsX at this
    rw [Bool.and_eq_false_iff] at this
    rcases this with w | w
    · exact of_decide_eq_false w z.1
    · exact of_decide_eq_false w z.2
  refine ⟨prsX SH o X, fun _ => false, fun _ => false, psX_calm 6 0 _ _ (by decide) fun t _ ht => ?_, ?_⟩
  · unfold unX prsX
    have := un t ht
    by_cases e : 0 < X.1 t
    · rw [decide_eq_true e, Bool.true_and]
      exact decide_eq_false fun z => this ⟨e, by have z : hd t < X.1 t + (X.2 t + SH o t (X.1 t)) := z; omega⟩
    · rw [decide_eq_false e, Bool.false_and]
  · have e3 : prsX SH p (prsX SH o X) = X'' := by
      rw [e2, e1]
      unfold prsX
      refine Prod.ext rfl (funext fun s => ?_)
      show X.2 s + SH o s (X.1 s) + SH p s (X.1 s) = X.2 s + SH p s (X.1 s) + SH o s (X.1 s)
      omega
    rw [← e3]
    refine psX_calm 6 0 _ _ (by decide) fun t _ ht => ?_
    unfold unX prsX
    have := un t ht
    by_cases e : 0 < X.1 t
    · rw [decide_eq_true e, Bool.true_and]
      exact decide_eq_false fun z => this ⟨e, by have z : hd t < X.1 t + (X.2 t + SH o t (X.1 t) + SH p t (X.1 t)) := z; omega⟩
    · rw [decide_eq_false e, Bool.false_and]
/-- the same two the other way round have been tried -/
theorem calmNo {d o p : Nat} {X X' X'' : Xst} {sl sl' : Nat → Bool} (hp : p < O) (hop : op p = true) (h1 : stepX SH hd bl gg p X = some (X', sl)) (c1 : ∀ t, t < 6 → sl t = false) (h2 : stepX SH hd bl gg o X' = some (X'', sl')) (c2 : ∀ t, t < 6 → sl' t = false) (hno : ∀ Y s1, stepX SH hd bl gg o X = some (Y, s1) → brX O op SH hd bl gg tg false (d + 2) Y = none) : brX O op SH hd bl gg tg false (d + 1) X'' = none := by
  obtain ⟨Y, s1, s2, a1, a2⟩ := calm2 h1 c1 h2 c2
  have := hno Y s1 a1
  rw [brX] at this
  have n := fstO_none.mp this p (Nat.zero_le _) (by omega)
  unfold tryX at n
  rw [if_pos hop, a2] at n
  have n : (if false = true ∧ s2 tg = true then none else (brX O op SH hd bl gg tg false (d + 1) X'').map (fun l => p :: l)) = none := n
  rw [if_neg (fun z => by cases z.1)] at n
  cases hb : brX O op SH hd bl gg tg false (d + 1) X'' with
  | none => rfl
  | some l => rw [hb] at n; cases n
end BRP

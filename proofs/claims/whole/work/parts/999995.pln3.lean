/-! ===== plan: the class's search ===== -/
def usd (shD : Nat → Nat → Nat → Nat) (c : Nat → Nat) (d k s : Nat) : Nat := smW k (fun j => if c j = d then shD d j s else 0)
abbrev okPl (shD : Nat → Nat → Nat → Nat) (b : Nat → Nat → Int) (k : Nat) (c : Nat → Nat) (w : Nat) : Prop := ∀ s, s < 6 → (((usd shD c w k s + shD w k s) : Nat) : Int) ≤ b w s
def aPl (opD : Nat → Nat → Bool) (shD : Nat → Nat → Nat → Nat) (b : Nat → Nat → Int) (k : Nat) (c : Nat → Nat) (w : Nat) : Bool := opD w k && decide (okPl shD b k c w)
def allA (A : Nat → (Nat → Nat) → Nat → Bool) (T : Nat) (c : Nat → Nat) : Bool := decide (∀ j, j < T → A j c (c j) = true)
theorem usd_cg {shD : Nat → Nat → Nat → Nat} {c c' : Nat → Nat} {d k s : Nat} (h : ∀ j, j < k → c j = c' j) : usd shD c d k s = usd shD c' d k s := smW_cg fun j hj => by rw [h j hj]
theorem aPl_cg {opD : Nat → Nat → Bool} {shD : Nat → Nat → Nat → Nat} {b : Nat → Nat → Int} (k : Nat) (c c' : Nat → Nat) (w : Nat) (h : ∀ j, j < k → c j = c' j) : aPl opD shD b k c w = aPl opD shD b k c' w := by
  unfold aPl
  have e : okPl shD b k c w ↔ okPl shD b k c' w := by
    constructor
    · intro z s hs; have := z s hs; rw [usd_cg h] at this; exact this
    · intro z s hs; have := z s hs; rw [← usd_cg h] at this; exact this
  by_cases h1 : okPl shD b k c w
  · rw [decide_eq_true h1, decide_eq_true (e.mp h1)]
  · rw [decide_eq_false h1, decide_eq_false (fun z => h1 (e.mpr z))]
theorem usd_cup (shD : Nat → Nat → Nat → Nat) (c : Nat → Nat) (d k w s : Nat) : usd shD (cup c k w) d (k + 1) s = usd shD c d k s + if w = d then shD d k s else 0 := by
  unfold usd
  rw [smW, cup_eq, smW_cg (g := fun j => if c j = d then shD d j s else 0) (fun j hj => by rw [cup_ne (by omega)])]
/-- what is fixed -/
def PDt (T N : Nat) (opD : Nat → Nat → Bool) (shD : Nat → Nat → Nat → Nat) (g : am_G) : Prop := am_I g 1 15 = nI T ∧ am_I g 45 7 = nI N ∧ ∀ d, d < N → ∀ k, k < T → am_I g 47 (6 * d + k) = (if opD d k = true then nI 1 else nI 0) ∧ ∀ s, s < 6 → am_I g 48 (6 * (6 * d + k) + s) = nI (shD d k s)
def FYp (g g' : am_G) : Prop := g'.2 = g.2 ∧ ∀ a j, ¬ (a = 45 ∧ j = 8) → a ≠ 46 → a ≠ 49 → a ≠ 50 → am_I g' a j = am_I g a j
theorem FYp.rf (g : am_G) : FYp g g := ⟨rfl, fun _ _ _ _ _ _ => rfl⟩
theorem FYp.tr {g h i : am_G} (h1 : FYp g h) (h2 : FYp h i) : FYp g i := ⟨h2.1.trans h1.1, fun a j x y z w => (h2.2 a j x y z w).trans (h1.2 a j x y z w)⟩
theorem FYp.S {g h : am_G} (h1 : FYp g h) : FcS g h := ⟨h1.1, fun a x _ => funext fun j => h1.2 a j (by omega) (by omega) (by omega) (by omega)⟩
theorem PDt.fy {T N : Nat} {opD : Nat → Nat → Bool} {shD : Nat → Nat → Nat → Nat} {g g' : am_G} (h : PDt T N opD shD g) (f : FYp g g') : PDt T N opD shD g' := by
  obtain ⟨h1, h2, h3⟩ := h
  refine ⟨by rw [f.2 1 15 (by omega) (by decide) (by decide) (by decide)]; exact h1, by rw [f.2 45 7 (by omega) (by decide) (by decide) (by decide)]; exact h2, fun d hd k hk => ?_⟩
  obtain ⟨a1, a2⟩ := h3 d hd k hk
  exact ⟨by rw [f.2 47 _ (by omega) (by decide) (by decide) (by decide)]; exact a1, fun s hs => by rw [f.2 48 _ (by omega) (by decide) (by decide) (by decide)]; exact a2 s hs⟩
def RmP (N : Nat) (shD : Nat → Nat → Nat → Nat) (b : Nat → Nat → Int) (k : Nat) (c : Nat → Nat) (g : am_G) : Prop := ∀ d, d < N → ∀ s, s < 6 → (am_I g 46 (6 * d + s)).toInt = b d s - ((usd shD c d k s : Nat) : Int)
def SPl (T : Nat) (g : am_G) (st : StQ) : Prop := am_I g 45 8 = nI st.1 ∧ (st.1 = 0 ∨ ∀ j, j < T → am_I g 50 j = nI (st.2 j))
section PLS
variable {T N : Nat} {opD : Nat → Nat → Bool} {shD : Nat → Nat → Nat → Nat} {b : Nat → Nat → Int}
theorem pfits {d k : Nat} {g : am_G} (hd : d < N) (hN : N ≤ 4) (hk : k < T) (hT : T ≤ 6) (hsh : ∀ s, s < 6 → shD d k s ≤ 999) (hD : PDt T N opD shD g) : ∀ (c s m : Nat), s + c = 6 → c < m → (∀ t, t < s → ((shD d k t : Nat) : Int) ≤ (am_I g 46 (6 * d + t)).toInt) → ((∀ t, t < 6 → ((shD d k t : Nat) : Int) ≤ (am_I g 46 (6 * d + t)).toInt) → fX4_fits_L2 (nI d) (nI (6 * d + k)) m (nI s) g = some (nI 1, g)) ∧ (¬ (∀ t, t < 6 → ((shD d k t : Nat) : Int) ≤ (am_I g 46 (6 * d + t)).toInt) → fX4_fits_L2 (nI d) (nI (6 * d + k)) m (nI s) g = some (nI 0, g))
  | 0, s, m, hc, hm, hs => by
    obtain ⟨m, rfl⟩ : ∃ m', m = m' + 1 := ⟨m - 1, by omega⟩
    obtain rfl : s = 6 := by omega
    refine ⟨fun _ => ?_, fun z => absurd (fun t ht => hs t ht) z⟩
    rw [fX4_fits_L2, if_pos (show (6 : Int32) ≤ nI 6 by decide)]
    rfl
  | c + 1, s, m, hc, hm, hs => by
    obtain ⟨m, rfl⟩ : ∃ m', m = m' + 1 := ⟨m - 1, by omega⟩
    have hs6 : s < 6 := by omega
    have e48 := (hD.2.2 d hd k hk).2 s hs6
    have h9 := hsh s hs6
    have st1 : fX4_fits_L2 (nI d) (nI (6 * d + k)) (m + 1) (nI s) g = if ((shD d k s : Nat) : Int) ≤ (am_I g 46 (6 * d + s)).toInt then fX4_fits_L2 (nI d) (nI (6 * d + k)) m (nI (s + 1)) g else some (nI 0, g) := by
      rw [fX4_fits_L2, if_neg (show ¬ (6 : Int32) ≤ nI s from fun z => absurd ((nI_leI (a := 6) (by decide) (by omega)).mp z) (by omega)), i6, i6, pe_gd (show 6 * d + s < 24 by omega) (by decide), pe_gd (show 6 * (6 * d + k) + s < 144 by omega) (by decide), pe_clamp (show 6 * d + s < 2147483648 by omega), pe_clamp (show 6 * (6 * d + k) + s < 2147483648 by omega), e48]
      by_cases h1 : ((shD d k s : Nat) : Int) ≤ (am_I g 46 (6 * d + s)).toInt
      · rw [if_pos h1, if_pos (Int32.le_iff_toInt_le.mpr (by rw [nn_toInt (by omega)]; exact h1)), pu_let, show nI s + (1 : Int32) = nI (s + 1) from nI_add s 1]
      · rw [if_neg h1, if_neg (fun z => h1 (by
          have := Int32.le_iff_toInt_le.mp z
          rw [nn_toInt (by omega)] at this
          exact this))]
        rfl
    by_cases h1 : ((shD d k s : Nat) : Int) ≤ (am_I g 46 (6 * d + s)).toInt
    · rw [st1, if_pos h1]
      exact pfits hd hN hk hT hsh hD c (s + 1) m (by omega) (by omega) (fun t ht => by
        by_cases e : t = s
        · subst e; exact h1
        · exact hs t (by omega))
    · rw [st1, if_neg h1]
      exact ⟨fun z => absurd (z s hs6) h1, fun _ => rfl⟩
theorem pstr {d k : Nat} {a3 : Int32} {sg : Int} (ha : a3.toInt = sg) (hsg : sg = 1 ∨ sg = -1) (hd : d < N) (hN : N ≤ 4) (hk : k < T) (hT : T ≤ 6) (hsh : ∀ s, s < 6 → shD d k s ≤ 999) : ∀ (c s m : Nat) (g : am_G), s + c = 6 → c < m → PDt T N opD shD g → (∀ t, s ≤ t → t < 6 → -1100000000 ≤ (am_I g 46 (6 * d + t)).toInt ∧ (am_I g 46 (6 * d + t)).toInt ≤ 1100000000) → ∃ g', fX4_strainBy_L3 (nI d) (nI (6 * d + k)) a3 m (nI s) g = some ((), g') ∧ (g'.2 = g.2 ∧ ∀ a j, ¬ (a = 46 ∧ 6 * d + s ≤ j ∧ j < 6 * d + 6) → am_I g' a j = am_I g a j) ∧ ∀ t, s ≤ t → t < 6 → (am_I g' 46 (6 * d + t)).toInt = (am_I g 46 (6 * d + t)).toInt + sg * ((shD d k t : Nat) : Int) := by
  intro c
  induction c with
  | zero =>
    intro s m g hc hm hD hb
    obtain ⟨m, rfl⟩ : ∃ m', m = m' + 1 := ⟨m - 1, by omega⟩
    obtain rfl : s = 6 := by omega
    refine ⟨g, ?_, ⟨rfl, fun _ _ _ => rfl⟩, fun t h1 h2 => absurd h1 (by omega)⟩
    rw [fX4_strainBy_L3, if_pos (show (6 : Int32) ≤ nI 6 by decide)]
  | succ c ih =>
    intro s m g hc hm hD hb
    obtain ⟨m, rfl⟩ : ∃ m', m = m' + 1 := ⟨m - 1, by omega⟩
    have hs6 : s < 6 := by omega
    have e48 := (hD.2.2 d hd k hk).2 s hs6
    have h9 := hsh s hs6
    have hbs := hb s (Nat.le_refl _) hs6
    have ei : (am_I g 46 (6 * d + s) + a3 * nI (shD d k s)).toInt = (am_I g 46 (6 * d + s)).toInt + sg * ((shD d k s : Nat) : Int) := by
      have e1 : (a3 * nI (shD d k s)).toInt = sg * ((shD d k s : Nat) : Int) := by
        rw [Int32.toInt_mul, ha, nn_toInt (by omega)]
        rcases hsg with rfl | rfl
        · exact Int.bmod_eq_of_le (by omega) (by omega)
        · exact Int.bmod_eq_of_le (by omega) (by omega)
      rw [Int32.toInt_add, e1]
      rcases hsg with rfl | rfl
      · exact Int.bmod_eq_of_le (by omega) (by omega)
      · exact Int.bmod_eq_of_le (by omega) (by omega)
    have fy : FYp g (am_si g 46 (6 * d + s) (am_I g 46 (6 * d + s) + a3 * nI (shD d k s))) := ⟨rfl, fun a j _ z _ _ => by rw [pI_si_ne _ _ _ z]⟩
    obtain ⟨g', x1, x2, x3⟩ := ih (s + 1) m (am_si g 46 (6 * d + s) (am_I g 46 (6 * d + s) + a3 * nI (shD d k s))) (by omega) (by omega) (hD.fy fy) (fun t h1 h2 => by rw [pe_ik (by omega)]; exact hb t (by omega) h2)
    refine ⟨g', ?_, ⟨x2.1, fun a j z => (x2.2 a j (fun w => z ⟨w.1, by omega, w.2.2⟩)).trans (by rw [pI_si, if_neg (fun w => z ⟨w.1, by omega, by omega⟩)])⟩, fun t h1 h2 => ?_⟩
    · rw [fX4_strainBy_L3, if_neg (show ¬ (6 : Int32) ≤ nI s from fun z => absurd ((nI_leI (a := 6) (by decide) (by omega)).mp z) (by omega)), i6, i6, pe_gd (show 6 * d + s < 24 by omega) (by decide), pe_gd (show 6 * (6 * d + k) + s < 144 by omega) (by decide), pe_gd (show 6 * d + s < 24 by omega) (by decide), pu_let, pu_let, pe_clamp (show 6 * d + s < 2147483648 by omega), pe_clamp (show 6 * (6 * d + k) + s < 2147483648 by omega), e48, show nI s + (1 : Int32) = nI (s + 1) from nI_add s 1]
      exact x1
    · by_cases e : t = s
      · subst e; rw [x2.2 46 _ (by omega), pe_ieq]; exact ei
      · rw [x3 t (by omega) h2, pe_ik (by omega)]
end PLS

/-! ===== the places of talks in what is known stay ===== -/
def KN (g g' : am_G) : Prop := g'.2 = g.2 ∧ ∀ k, 23 ≤ k → am_I g' 37 k = am_I g 37 k
theorem KN.rf (g : am_G) : KN g g := ⟨rfl, fun _ _ => rfl⟩
theorem KN.tr {g h i : am_G} (h1 : KN g h) (h2 : KN h i) : KN g i := ⟨h2.1.trans h1.1, fun k hk => (h2.2 k hk).trans (h1.2 k hk)⟩
def KR {β : Type} (g : am_G) (R : Option (β × am_G)) : Prop := ∀ v g', R = some (v, g') → KN g g'
def NP (p : Nat) (g : am_G) : Prop := okP p ∧ PkS g p
theorem NP.kn {p : Nat} {g g' : am_G} (h : NP p g) (hk : KN g g') : NP p g' := ⟨h.1, by
  have e := h.2
  unfold PkS at e ⊢
  rw [show am_P g' = am_P g from congrArg (fun z => z.2.1) hk.1, show am_S g' = am_S g from congrArg (fun z => z.2.2.1) hk.1]; exact e⟩
theorem NP.ne {p : Nat} {g : am_G} (h : NP p g) : p ≠ 37 := by
  have e := h.1
  unfold okP at e
  omega
theorem NP.at {p : Nat} {g : am_G} (h : NP p g) {j : Nat} (hj : j < 5) : am_P g p j ≠ some 37 := by
  obtain ⟨hp, h0, h1, h2, h3, h4, h5, s1, s2, s3, s4, s5⟩ := h
  unfold okP at hp
  rcases (show j = 0 ∨ j = 1 ∨ j = 2 ∨ j = 3 ∨ j = 4 by omega) with rfl | rfl | rfl | rfl | rfl
  · rw [h1]; exact fun z => absurd (Option.some.inj z) (by omega)
  · rw [h2]; exact fun z => absurd (Option.some.inj z) (by omega)
  · rw [h3]; exact fun z => absurd (Option.some.inj z) (by omega)
  · rw [h4]; exact fun z => absurd (Option.some.inj z) (by omega)
  · rw [h5]; exact fun z => absurd (Option.some.inj z) (by omega)
theorem kr_n {β : Type} {g : am_G} : KR g (none : Option (β × am_G)) := fun _ _ h => by cases h
theorem kr_s {β : Type} {g g' : am_G} {v : β} (h : KN g g') : KR g (some (v, g')) := fun _ _ e => by cases e; exact h
theorem kr_gd {β : Type} {g : am_G} {c : Bool} {R : Option (β × am_G)} (h : KR g R) : KR g (am_gd c R) := by
  unfold am_gd
  by_cases e : c = true
  · rw [if_pos e]; exact h
  · rw [if_neg e]; exact kr_n
theorem kr_if {β : Type} {g : am_G} {c : Prop} [Decidable c] {A B : Option (β × am_G)} (h1 : KR g A) (h2 : KR g B) : KR g (if c then A else B) := by
  by_cases e : c
  · rw [if_pos e]; exact h1
  · rw [if_neg e]; exact h2
theorem kr_bd {α β : Type} {g g1 : am_G} {R : Option (α × am_G)} {k : α → am_G → Option (β × am_G)} (h1 : KR g1 R) (h2 : KN g g1) (h3 : ∀ v g', KN g g' → KR g (k v g')) : KR g (am_bd R k) := by
  cases R with
  | none => exact kr_n
  | some q => exact h3 q.1 q.2 (h2.tr (h1 q.1 q.2 rfl))
theorem kr_ls {β : Type} {g s : am_G} {f : am_G → Option (β × am_G)} (h1 : KN g s) (h2 : ∀ g', KN g g' → KR g (f g')) : KR g (am_let s f) := h2 s h1
theorem kr_lv {β : Type} {g : am_G} {x : Int32} {f : Int32 → Option (β × am_G)} (h2 : ∀ x, KR g (f x)) : KR g (am_let x f) := h2 x
theorem kr_ll {β : Type} {g : am_G} {x : Int64} {f : Int64 → Option (β × am_G)} (h2 : ∀ x, KR g (f x)) : KR g (am_let x f) := h2 x
theorem kr_oc {β : Type} {g : am_G} {P : Option Nat} {ks : Nat → Option (β × am_G)} {kn : Option (β × am_G)} (h1 : ∀ q, KR g (ks q)) (h2 : KR g kn) : KR g (am_oc P ks kn) := by
  cases P with
  | none => exact h2
  | some q => exact h1 q
theorem kr_ocp {β : Type} {g g1 : am_G} {p j : Nat} {ks : Nat → Option (β × am_G)} {kn : Option (β × am_G)} (hN : NP p g) (hk : KN g g1) (hj : j < 5) (h1 : ∀ q, q ≠ 37 → KR g (ks q)) (h2 : KR g kn) : KR g (am_oc (am_P g1 p j) ks kn) := by
  have e := (hN.kn hk).at hj
  cases z : am_P g1 p j with
  | none => exact h2
  | some q => exact h1 q (fun w => e (by rw [z, w]))
theorem kr_jn {κ β : Type} {g : am_G} {f : κ} {k : κ → Option (β × am_G)} (h : KR g (k f)) : KR g (am_jn f k) := h
theorem kr_jg {β : Type} {g : am_G} {f : am_G → Option (β × am_G)} {k : (am_G → Option (β × am_G)) → Option (β × am_G)} (h1 : ∀ g', KN g g' → KR g (f g')) (h2 : ∀ j, (∀ g', KN g g' → KR g (j g')) → KR g (k j)) : KR g (am_jn f k) := h2 f h1
theorem kr_jx {β : Type} {g : am_G} {f : Int32 → am_G → Option (β × am_G)} {k : (Int32 → am_G → Option (β × am_G)) → Option (β × am_G)} (h1 : ∀ x g', KN g g' → KR g (f x g')) (h2 : ∀ j, (∀ x g', KN g g' → KR g (j x g')) → KR g (k j)) : KR g (am_jn f k) := h2 f h1
theorem kr_t {β : Type} {g g' : am_G} {R : Option (β × am_G)} (h : KR g' R) (hk : KN g g') : KR g R := fun v g2 e => hk.tr (h v g2 e)
theorem kn_si {g h : am_G} (h1 : KN g h) {a k : Nat} {x : Int32} (ha : a ≠ 37) : KN g (am_si h a k x) := ⟨h1.1, fun j hj => by rw [pI_si_ne _ _ _ (Ne.symm ha)]; exact h1.2 j hj⟩
theorem kn_sk {g h : am_G} (h1 : KN g h) {k : Nat} {x : Int32} (hk : k < 23) : KN g (am_si h 37 k x) := ⟨h1.1, fun j hj => by rw [pe_ik (by omega)]; exact h1.2 j hj⟩
theorem kn_sr {g h : am_G} (h1 : KN g h) {a : Nat} {f : Nat → Int32} (ha : a ≠ 37) : KN g (am_sr h a f) := ⟨h1.1, fun j hj => by rw [pI_sr_ne _ _ (Ne.symm ha)]; exact h1.2 j hj⟩

theorem k_0_onDay {a1 : Int32} {g : am_G} : KR g (fX0_onDay a1 g) := by
  have h0 := KN.rf g
  unfold fX0_onDay
  repeat (first
    | with_reducible exact kr_n
    | with_reducible exact kr_s (by assumption)
    | with_reducible refine kr_gd ?_
    | with_reducible refine kr_ls (kn_sk (by assumption) (by decide)) (fun _ _ => ?_)
    | with_reducible refine kr_ls (kn_si (by assumption) (by first | assumption | decide | exact hN.ne)) (fun _ _ => ?_)
    | with_reducible refine kr_lv (fun _ => ?_)
    | with_reducible refine kr_ll (fun _ => ?_)
    | with_reducible refine kr_ocp hN (by assumption) (by decide) (fun _ _ => ?_) ?_
    | with_reducible refine kr_oc (fun _ => ?_) ?_
    | with_reducible refine kr_if ?_ ?_
    | with_reducible refine kr_jn ?_
    | with_reducible exact kr_t (hk _ _) (by assumption))
theorem k_0_ofSaid {a1 : Int32} {a2 : Int32} {a3 : Int32} {g : am_G} : KR g (fX0_ofSaid a1 a2 a3 g) := by
  have h0 := KN.rf g
  unfold fX0_ofSaid
  repeat (first
    | with_reducible exact kr_n
    | with_reducible exact kr_s (by assumption)
    | with_reducible refine kr_gd ?_
    | with_reducible refine kr_ls (kn_sk (by assumption) (by decide)) (fun _ _ => ?_)
    | with_reducible refine kr_ls (kn_si (by assumption) (by first | assumption | decide | exact hN.ne)) (fun _ _ => ?_)
    | with_reducible refine kr_lv (fun _ => ?_)
    | with_reducible refine kr_ll (fun _ => ?_)
    | with_reducible refine kr_ocp hN (by assumption) (by decide) (fun _ _ => ?_) ?_
    | with_reducible refine kr_oc (fun _ => ?_) ?_
    | with_reducible refine kr_if ?_ ?_
    | with_reducible refine kr_jn ?_
    | with_reducible exact kr_t (hk _ _) (by assumption))
theorem k_11_within {a0 : Int32} {a1 : Int32} {a2 : Int32} {g : am_G} : KR g (fX11_within a0 a1 a2 g) := by
  have h0 := KN.rf g
  unfold fX11_within
  repeat (first
    | with_reducible exact kr_n
    | with_reducible exact kr_s (by assumption)
    | with_reducible refine kr_gd ?_
    | with_reducible refine kr_ls (kn_sk (by assumption) (by decide)) (fun _ _ => ?_)
    | with_reducible refine kr_ls (kn_si (by assumption) (by first | assumption | decide | exact hN.ne)) (fun _ _ => ?_)
    | with_reducible refine kr_lv (fun _ => ?_)
    | with_reducible refine kr_ll (fun _ => ?_)
    | with_reducible refine kr_ocp hN (by assumption) (by decide) (fun _ _ => ?_) ?_
    | with_reducible refine kr_oc (fun _ => ?_) ?_
    | with_reducible refine kr_if ?_ ?_
    | with_reducible refine kr_jn ?_
    | with_reducible exact kr_t (hk _ _) (by assumption))
theorem k_11_isSlope {a0 : Int32} {g : am_G} : KR g (fX11_isSlope a0 g) := by
  have h0 := KN.rf g
  unfold fX11_isSlope
  repeat (first
    | with_reducible exact kr_n
    | with_reducible exact kr_s (by assumption)
    | with_reducible refine kr_gd ?_
    | with_reducible refine kr_ls (kn_sk (by assumption) (by decide)) (fun _ _ => ?_)
    | with_reducible refine kr_ls (kn_si (by assumption) (by first | assumption | decide | exact hN.ne)) (fun _ _ => ?_)
    | with_reducible refine kr_lv (fun _ => ?_)
    | with_reducible refine kr_ll (fun _ => ?_)
    | with_reducible refine kr_bd (k_11_within) (by assumption) (fun _ _ _ => ?_)
    | with_reducible exact kr_t (k_11_within) (by assumption)
    | with_reducible refine kr_ocp hN (by assumption) (by decide) (fun _ _ => ?_) ?_
    | with_reducible refine kr_oc (fun _ => ?_) ?_
    | with_reducible refine kr_if ?_ ?_
    | with_reducible refine kr_jn ?_
    | with_reducible exact kr_t (hk _ _) (by assumption))
theorem k_2_slideOne_L115 (a0 : Nat) (a1 : Int32) : ∀ (n : Nat) (x0 : Int32) (g : am_G), NP a0 g → KR g (fX2_slideOne_L115 a0 a1 n x0 g) := by
  intro n
  induction n with
  | zero =>
    intro x0 g _
    exact kr_n
  | succ n ih =>
    intro x0 g hN
    have h0 := KN.rf g
    rw [fX2_slideOne_L115]
    repeat (first
      | with_reducible exact kr_n
      | with_reducible exact kr_s (by assumption)
      | with_reducible refine kr_gd ?_
      | with_reducible refine kr_ls (kn_sk (by assumption) (by decide)) (fun _ _ => ?_)
      | with_reducible refine kr_ls (kn_si (by assumption) (by first | assumption | decide | exact hN.ne)) (fun _ _ => ?_)
      | with_reducible refine kr_lv (fun _ => ?_)
      | with_reducible refine kr_ll (fun _ => ?_)
      | with_reducible refine kr_bd ((ih _ _ (hN.kn (by assumption)))) (by assumption) (fun _ _ _ => ?_)
      | with_reducible exact kr_t ((ih _ _ (hN.kn (by assumption)))) (by assumption)
      | with_reducible refine kr_ocp hN (by assumption) (by decide) (fun _ _ => ?_) ?_
      | with_reducible refine kr_oc (fun _ => ?_) ?_
      | with_reducible refine kr_if ?_ ?_
      | with_reducible refine kr_jn ?_
      | with_reducible exact kr_t (hk _ _) (by assumption))
theorem k_2_slideOne {a0 : Nat} {a1 : Int32} {g : am_G} (hN : NP a0 g) : KR g (fX2_slideOne a0 a1 g) := by
  have h0 := KN.rf g
  unfold fX2_slideOne
  repeat (first
    | with_reducible exact kr_n
    | with_reducible exact kr_s (by assumption)
    | with_reducible refine kr_gd ?_
    | with_reducible refine kr_ls (kn_sk (by assumption) (by decide)) (fun _ _ => ?_)
    | with_reducible refine kr_ls (kn_si (by assumption) (by first | assumption | decide | exact hN.ne)) (fun _ _ => ?_)
    | with_reducible refine kr_lv (fun _ => ?_)
    | with_reducible refine kr_ll (fun _ => ?_)
    | with_reducible refine kr_bd (k_11_isSlope) (by assumption) (fun _ _ _ => ?_)
    | with_reducible exact kr_t (k_11_isSlope) (by assumption)
    | with_reducible refine kr_bd (k_2_slideOne_L115 _ _ _ _ _ (hN.kn (by assumption))) (by assumption) (fun _ _ _ => ?_)
    | with_reducible exact kr_t (k_2_slideOne_L115 _ _ _ _ _ (hN.kn (by assumption))) (by assumption)
    | with_reducible refine kr_ocp hN (by assumption) (by decide) (fun _ _ => ?_) ?_
    | with_reducible refine kr_oc (fun _ => ?_) ?_
    | with_reducible refine kr_if ?_ ?_
    | with_reducible refine kr_jn ?_
    | with_reducible exact kr_t (hk _ _) (by assumption))
theorem k_2_slideAll_L4 (a0 : Nat) : ∀ (n : Nat) (x0 : Int32) (x1 : Int32) (g : am_G), NP a0 g → KR g (fX2_slideAll_L4 a0 n x0 x1 g) := by
  intro n
  induction n with
  | zero =>
    intro x0 x1 g _
    exact kr_n
  | succ n ih =>
    intro x0 x1 g hN
    have h0 := KN.rf g
    rw [fX2_slideAll_L4]
    repeat (first
      | with_reducible exact kr_n
      | with_reducible exact kr_s (by assumption)
      | with_reducible refine kr_gd ?_
      | with_reducible refine kr_ls (kn_sk (by assumption) (by decide)) (fun _ _ => ?_)
      | with_reducible refine kr_ls (kn_si (by assumption) (by first | assumption | decide | exact hN.ne)) (fun _ _ => ?_)
      | with_reducible refine kr_lv (fun _ => ?_)
      | with_reducible refine kr_ll (fun _ => ?_)
      | with_reducible refine kr_bd ((ih _ _ _ (hN.kn (by assumption)))) (by assumption) (fun _ _ _ => ?_)
      | with_reducible exact kr_t ((ih _ _ _ (hN.kn (by assumption)))) (by assumption)
      | with_reducible refine kr_bd (k_2_slideOne (hN.kn (by assumption))) (by assumption) (fun _ _ _ => ?_)
      | with_reducible exact kr_t (k_2_slideOne (hN.kn (by assumption))) (by assumption)
      | with_reducible refine kr_ocp hN (by assumption) (by decide) (fun _ _ => ?_) ?_
      | with_reducible refine kr_oc (fun _ => ?_) ?_
      | with_reducible refine kr_if ?_ ?_
      | with_reducible refine kr_jn ?_
      | with_reducible exact kr_t (hk _ _) (by assumption))
theorem k_2_slideAll {a0 : Nat} {g : am_G} (hN : NP a0 g) : KR g (fX2_slideAll a0 g) := by
  have h0 := KN.rf g
  unfold fX2_slideAll
  repeat (first
    | with_reducible exact kr_n
    | with_reducible exact kr_s (by assumption)
    | with_reducible refine kr_gd ?_
    | with_reducible refine kr_ls (kn_sk (by assumption) (by decide)) (fun _ _ => ?_)
    | with_reducible refine kr_ls (kn_si (by assumption) (by first | assumption | decide | exact hN.ne)) (fun _ _ => ?_)
    | with_reducible refine kr_lv (fun _ => ?_)
    | with_reducible refine kr_ll (fun _ => ?_)
    | with_reducible refine kr_bd (k_2_slideAll_L4 _ _ _ _ _ (hN.kn (by assumption))) (by assumption) (fun _ _ _ => ?_)
    | with_reducible exact kr_t (k_2_slideAll_L4 _ _ _ _ _ (hN.kn (by assumption))) (by assumption)
    | with_reducible refine kr_ocp hN (by assumption) (by decide) (fun _ _ => ?_) ?_
    | with_reducible refine kr_oc (fun _ => ?_) ?_
    | with_reducible refine kr_if ?_ ?_
    | with_reducible refine kr_jn ?_
    | with_reducible exact kr_t (hk _ _) (by assumption))
theorem k_9_lawInForce {g : am_G} : KR g (fX9_lawInForce g) := by
  have h0 := KN.rf g
  unfold fX9_lawInForce
  repeat (first
    | with_reducible exact kr_n
    | with_reducible exact kr_s (by assumption)
    | with_reducible refine kr_gd ?_
    | with_reducible refine kr_ls (kn_sk (by assumption) (by decide)) (fun _ _ => ?_)
    | with_reducible refine kr_ls (kn_si (by assumption) (by first | assumption | decide | exact hN.ne)) (fun _ _ => ?_)
    | with_reducible refine kr_lv (fun _ => ?_)
    | with_reducible refine kr_ll (fun _ => ?_)
    | with_reducible refine kr_bd (k_11_within) (by assumption) (fun _ _ _ => ?_)
    | with_reducible exact kr_t (k_11_within) (by assumption)
    | with_reducible refine kr_ocp hN (by assumption) (by decide) (fun _ _ => ?_) ?_
    | with_reducible refine kr_oc (fun _ => ?_) ?_
    | with_reducible refine kr_if ?_ ?_
    | with_reducible refine kr_jn ?_
    | with_reducible exact kr_t (hk _ _) (by assumption))
theorem k_6_kindOf {a0 : Nat} {a1 : Int32} {g : am_G} : KR g (fX6_kindOf a0 a1 g) := by
  have h0 := KN.rf g
  unfold fX6_kindOf
  repeat (first
    | with_reducible exact kr_n
    | with_reducible exact kr_s (by assumption)
    | with_reducible refine kr_gd ?_
    | with_reducible refine kr_ls (kn_sk (by assumption) (by decide)) (fun _ _ => ?_)
    | with_reducible refine kr_ls (kn_si (by assumption) (by first | assumption | decide | exact hN.ne)) (fun _ _ => ?_)
    | with_reducible refine kr_lv (fun _ => ?_)
    | with_reducible refine kr_ll (fun _ => ?_)
    | with_reducible refine kr_ocp hN (by assumption) (by decide) (fun _ _ => ?_) ?_
    | with_reducible refine kr_oc (fun _ => ?_) ?_
    | with_reducible refine kr_if ?_ ?_
    | with_reducible refine kr_jn ?_
    | with_reducible exact kr_t (hk _ _) (by assumption))
theorem k_6_testOf {a0 : Nat} {a1 : Int32} {g : am_G} : KR g (fX6_testOf a0 a1 g) := by
  have h0 := KN.rf g
  unfold fX6_testOf
  repeat (first
    | with_reducible exact kr_n
    | with_reducible exact kr_s (by assumption)
    | with_reducible refine kr_gd ?_
    | with_reducible refine kr_ls (kn_sk (by assumption) (by decide)) (fun _ _ => ?_)
    | with_reducible refine kr_ls (kn_si (by assumption) (by first | assumption | decide | exact hN.ne)) (fun _ _ => ?_)
    | with_reducible refine kr_lv (fun _ => ?_)
    | with_reducible refine kr_ll (fun _ => ?_)
    | with_reducible refine kr_ocp hN (by assumption) (by decide) (fun _ _ => ?_) ?_
    | with_reducible refine kr_oc (fun _ => ?_) ?_
    | with_reducible refine kr_if ?_ ?_
    | with_reducible refine kr_jn ?_
    | with_reducible exact kr_t (hk _ _) (by assumption))
theorem k_6_sumOf {a0 : Nat} {a1 : Int32} {a2 : Int32} {g : am_G} : KR g (fX6_sumOf a0 a1 a2 g) := by
  have h0 := KN.rf g
  unfold fX6_sumOf
  repeat (first
    | with_reducible exact kr_n
    | with_reducible exact kr_s (by assumption)
    | with_reducible refine kr_gd ?_
    | with_reducible refine kr_ls (kn_sk (by assumption) (by decide)) (fun _ _ => ?_)
    | with_reducible refine kr_ls (kn_si (by assumption) (by first | assumption | decide | exact hN.ne)) (fun _ _ => ?_)
    | with_reducible refine kr_lv (fun _ => ?_)
    | with_reducible refine kr_ll (fun _ => ?_)
    | with_reducible refine kr_ocp hN (by assumption) (by decide) (fun _ _ => ?_) ?_
    | with_reducible refine kr_oc (fun _ => ?_) ?_
    | with_reducible refine kr_if ?_ ?_
    | with_reducible refine kr_jn ?_
    | with_reducible exact kr_t (hk _ _) (by assumption))
theorem k_0_joined {a0 : Int32} {a1 : Int64} {a3 : Int64} {g : am_G} : KR g (fX0_joined a0 a1 a3 g) := by
  have h0 := KN.rf g
  unfold fX0_joined
  repeat (first
    | with_reducible exact kr_n
    | with_reducible exact kr_s (by assumption)
    | with_reducible refine kr_gd ?_
    | with_reducible refine kr_ls (kn_sk (by assumption) (by decide)) (fun _ _ => ?_)
    | with_reducible refine kr_ls (kn_si (by assumption) (by first | assumption | decide | exact hN.ne)) (fun _ _ => ?_)
    | with_reducible refine kr_lv (fun _ => ?_)
    | with_reducible refine kr_ll (fun _ => ?_)
    | with_reducible refine kr_ocp hN (by assumption) (by decide) (fun _ _ => ?_) ?_
    | with_reducible refine kr_oc (fun _ => ?_) ?_
    | with_reducible refine kr_if ?_ ?_
    | with_reducible refine kr_jn ?_
    | with_reducible exact kr_t (hk _ _) (by assumption))
theorem k_0_value_L8 (k : Int32 → am_G → Option (Int32 × am_G)) (a1 : Nat) (hk : ∀ x g, KR g (k x g)) : ∀ (n : Nat) (x0 : Int32) (x1 : Int32) (x2 : Int32) (g : am_G), KR g (fX0_value_L8 k a1 n x0 x1 x2 g) := by
  intro n
  induction n with
  | zero =>
    intro x0 x1 x2 g 
    exact kr_n
  | succ n ih =>
    intro x0 x1 x2 g 
    have h0 := KN.rf g
    rw [fX0_value_L8]
    repeat (first
      | with_reducible exact kr_n
      | with_reducible exact kr_s (by assumption)
      | with_reducible refine kr_gd ?_
      | with_reducible refine kr_ls (kn_sk (by assumption) (by decide)) (fun _ _ => ?_)
      | with_reducible refine kr_ls (kn_si (by assumption) (by first | assumption | decide | exact hN.ne)) (fun _ _ => ?_)
      | with_reducible refine kr_lv (fun _ => ?_)
      | with_reducible refine kr_ll (fun _ => ?_)
      | with_reducible refine kr_bd ((ih _ _ _ _)) (by assumption) (fun _ _ _ => ?_)
      | with_reducible exact kr_t ((ih _ _ _ _)) (by assumption)
      | with_reducible refine kr_bd (k_0_joined) (by assumption) (fun _ _ _ => ?_)
      | with_reducible exact kr_t (k_0_joined) (by assumption)
      | with_reducible refine kr_ocp hN (by assumption) (by decide) (fun _ _ => ?_) ?_
      | with_reducible refine kr_oc (fun _ => ?_) ?_
      | with_reducible refine kr_if ?_ ?_
      | with_reducible refine kr_jn ?_
      | with_reducible exact kr_t (hk _ _) (by assumption))
theorem k_0_value {a1 : Nat} {a2 : Int32} {g : am_G} : KR g (fX0_value a1 a2 g) := by
  unfold fX0_value
  refine k_0_value_L8 _ _ (fun x g => ?_) _ _ _ _ _
  exact kr_if (kr_s (KN.rf g)) (kr_gd (kr_s (KN.rf g)))
theorem k_0_lastTold_L22 (a1 : Int32) (p4 : Nat) : ∀ (n : Nat) (x0 : Int32) (g : am_G), KR g (fX0_lastTold_L22 a1 p4 n x0 g) := by
  intro n
  induction n with
  | zero =>
    intro x0 g
    exact kr_n
  | succ n ih =>
    intro x0 g
    have h0 := KN.rf g
    rw [fX0_lastTold_L22]
    refine kr_if (kr_s h0) (kr_gd (kr_bd k_6_kindOf h0 (fun v11 g12 h12 => ?_)))
    refine kr_jg (fun g16 h16 => kr_lv (fun x18 => kr_t (ih _ _) h16)) (fun j17 hj17 => ?_)
    refine kr_if (kr_gd (kr_bd k_6_testOf h12 (fun v19 g20 h20 => ?_))) (hj17 _ h12)
    refine kr_jg (fun g24 h24 => ?_) (fun j25 hj25 => ?_)
    · refine kr_jx (fun x27 g28 h28 => kr_if (hj17 _ h28) (kr_s h28)) (fun j29 hj29 => ?_)
      exact kr_if (hj29 _ _ h24) (kr_gd (kr_oc (fun p32 => kr_gd (kr_bd k_6_sumOf h24 (fun v34 g35 h35 => kr_bd k_0_value h35 (fun v38 g39 h39 => hj29 _ _ h39)))) kr_n))
    · exact kr_if (hj25 _ h20) (kr_gd (kr_oc (fun p42 => kr_bd k_0_value h20 (fun v44 g45 h45 => kr_if (hj25 _ h45) (hj17 _ h45))) kr_n))
theorem k_0_lastTold {a1 : Int32} {g : am_G} : KR g (fX0_lastTold a1 g) := by
  have h0 := KN.rf g
  unfold fX0_lastTold
  repeat (first
    | with_reducible exact kr_n
    | with_reducible exact kr_s (by assumption)
    | with_reducible refine kr_gd ?_
    | with_reducible refine kr_ls (kn_sk (by assumption) (by decide)) (fun _ _ => ?_)
    | with_reducible refine kr_ls (kn_si (by assumption) (by first | assumption | decide | exact hN.ne)) (fun _ _ => ?_)
    | with_reducible refine kr_lv (fun _ => ?_)
    | with_reducible refine kr_ll (fun _ => ?_)
    | with_reducible refine kr_bd (k_9_lawInForce) (by assumption) (fun _ _ _ => ?_)
    | with_reducible exact kr_t (k_9_lawInForce) (by assumption)
    | with_reducible refine kr_bd (k_0_lastTold_L22 _ _ _ _ _) (by assumption) (fun _ _ _ => ?_)
    | with_reducible exact kr_t (k_0_lastTold_L22 _ _ _ _ _) (by assumption)
    | with_reducible refine kr_ocp hN (by assumption) (by decide) (fun _ _ => ?_) ?_
    | with_reducible refine kr_oc (fun _ => ?_) ?_
    | with_reducible refine kr_if ?_ ?_
    | with_reducible refine kr_jn ?_
    | with_reducible exact kr_t (hk _ _) (by assumption))
theorem k_11_nearest {a0 : Int32} {a1 : Int32} {a2 : Int32} {g : am_G} : KR g (fX11_nearest a0 a1 a2 g) := by
  have h0 := KN.rf g
  unfold fX11_nearest
  repeat (first
    | with_reducible exact kr_n
    | with_reducible exact kr_s (by assumption)
    | with_reducible refine kr_gd ?_
    | with_reducible refine kr_ls (kn_sk (by assumption) (by decide)) (fun _ _ => ?_)
    | with_reducible refine kr_ls (kn_si (by assumption) (by first | assumption | decide | exact hN.ne)) (fun _ _ => ?_)
    | with_reducible refine kr_lv (fun _ => ?_)
    | with_reducible refine kr_ll (fun _ => ?_)
    | with_reducible refine kr_ocp hN (by assumption) (by decide) (fun _ _ => ?_) ?_
    | with_reducible refine kr_oc (fun _ => ?_) ?_
    | with_reducible refine kr_if ?_ ?_
    | with_reducible refine kr_jn ?_
    | with_reducible exact kr_t (hk _ _) (by assumption))
theorem k_0_shakes {a1 : Int32} {a2 : Int32} {g : am_G} : KR g (fX0_shakes a1 a2 g) := by
  have h0 := KN.rf g
  unfold fX0_shakes
  repeat (first
    | with_reducible exact kr_n
    | with_reducible exact kr_s (by assumption)
    | with_reducible refine kr_gd ?_
    | with_reducible refine kr_ls (kn_sk (by assumption) (by decide)) (fun _ _ => ?_)
    | with_reducible refine kr_ls (kn_si (by assumption) (by first | assumption | decide | exact hN.ne)) (fun _ _ => ?_)
    | with_reducible refine kr_lv (fun _ => ?_)
    | with_reducible refine kr_ll (fun _ => ?_)
    | with_reducible refine kr_bd (k_0_lastTold) (by assumption) (fun _ _ _ => ?_)
    | with_reducible exact kr_t (k_0_lastTold) (by assumption)
    | with_reducible refine kr_bd (k_11_nearest) (by assumption) (fun _ _ _ => ?_)
    | with_reducible exact kr_t (k_11_nearest) (by assumption)
    | with_reducible refine kr_ocp hN (by assumption) (by decide) (fun _ _ => ?_) ?_
    | with_reducible refine kr_oc (fun _ => ?_) ?_
    | with_reducible refine kr_if ?_ ?_
    | with_reducible refine kr_jn ?_
    | with_reducible exact kr_t (hk _ _) (by assumption))
theorem k_2_press {a0 : Nat} {a1 : Int32} {a2 : Int32} {a3 : Int32} {g : am_G} (hN : NP a0 g) : KR g (fX2_press a0 a1 a2 a3 g) := by
  have h0 := KN.rf g
  unfold fX2_press
  repeat (first
    | with_reducible exact kr_n
    | with_reducible exact kr_s (by assumption)
    | with_reducible refine kr_gd ?_
    | with_reducible refine kr_ls (kn_sk (by assumption) (by decide)) (fun _ _ => ?_)
    | with_reducible refine kr_ls (kn_si (by assumption) (by first | assumption | decide | exact hN.ne)) (fun _ _ => ?_)
    | with_reducible refine kr_lv (fun _ => ?_)
    | with_reducible refine kr_ll (fun _ => ?_)
    | with_reducible refine kr_ocp hN (by assumption) (by decide) (fun _ _ => ?_) ?_
    | with_reducible refine kr_oc (fun _ => ?_) ?_
    | with_reducible refine kr_if ?_ ?_
    | with_reducible refine kr_jn ?_
    | with_reducible exact kr_t (hk _ _) (by assumption))
theorem k_11_utter_L26 (a1 : Nat) (a2 : Int32) : ∀ (n : Nat) (x0 : Int32) (g : am_G), NP a1 g → KR g (fX11_utter_L26 a1 a2 n x0 g) := by
  intro n
  induction n with
  | zero =>
    intro x0 g _
    exact kr_n
  | succ n ih =>
    intro x0 g hN
    have h0 := KN.rf g
    rw [fX11_utter_L26]
    repeat (first
      | with_reducible exact kr_n
      | with_reducible exact kr_s (by assumption)
      | with_reducible refine kr_gd ?_
      | with_reducible refine kr_ls (kn_sk (by assumption) (by decide)) (fun _ _ => ?_)
      | with_reducible refine kr_ls (kn_si (by assumption) (by first | assumption | decide | exact hN.ne)) (fun _ _ => ?_)
      | with_reducible refine kr_lv (fun _ => ?_)
      | with_reducible refine kr_ll (fun _ => ?_)
      | with_reducible refine kr_bd ((ih _ _ (hN.kn (by assumption)))) (by assumption) (fun _ _ _ => ?_)
      | with_reducible exact kr_t ((ih _ _ (hN.kn (by assumption)))) (by assumption)
      | with_reducible refine kr_bd (k_2_slideAll (hN.kn (by assumption))) (by assumption) (fun _ _ _ => ?_)
      | with_reducible exact kr_t (k_2_slideAll (hN.kn (by assumption))) (by assumption)
      | with_reducible refine kr_bd (k_0_shakes) (by assumption) (fun _ _ _ => ?_)
      | with_reducible exact kr_t (k_0_shakes) (by assumption)
      | with_reducible refine kr_bd (k_2_press (hN.kn (by assumption))) (by assumption) (fun _ _ _ => ?_)
      | with_reducible exact kr_t (k_2_press (hN.kn (by assumption))) (by assumption)
      | with_reducible refine kr_ocp hN (by assumption) (by decide) (fun _ _ => ?_) ?_
      | with_reducible refine kr_oc (fun _ => ?_) ?_
      | with_reducible refine kr_if ?_ ?_
      | with_reducible refine kr_jn ?_
      | with_reducible exact kr_t (hk _ _) (by assumption))
theorem k_11_utter {a1 : Nat} {a2 : Int32} {a3 : Int32} {a4 : Int32} {a5 : Int32} {g : am_G} (hN : NP a1 g) : KR g (fX11_utter a1 a2 a3 a4 a5 g) := by
  have h0 := KN.rf g
  unfold fX11_utter
  repeat (first
    | with_reducible exact kr_n
    | with_reducible exact kr_s (by assumption)
    | with_reducible refine kr_gd ?_
    | with_reducible refine kr_ls (kn_sk (by assumption) (by decide)) (fun _ _ => ?_)
    | with_reducible refine kr_ls (kn_si (by assumption) (by first | assumption | decide | exact hN.ne)) (fun _ _ => ?_)
    | with_reducible refine kr_lv (fun _ => ?_)
    | with_reducible refine kr_ll (fun _ => ?_)
    | with_reducible refine kr_bd (k_0_onDay) (by assumption) (fun _ _ _ => ?_)
    | with_reducible exact kr_t (k_0_onDay) (by assumption)
    | with_reducible refine kr_bd (k_0_ofSaid) (by assumption) (fun _ _ _ => ?_)
    | with_reducible exact kr_t (k_0_ofSaid) (by assumption)
    | with_reducible refine kr_bd (k_11_utter_L26 _ _ _ _ _ (hN.kn (by assumption))) (by assumption) (fun _ _ _ => ?_)
    | with_reducible exact kr_t (k_11_utter_L26 _ _ _ _ _ (hN.kn (by assumption))) (by assumption)
    | with_reducible refine kr_ocp hN (by assumption) (by decide) (fun _ _ => ?_) ?_
    | with_reducible refine kr_oc (fun _ => ?_) ?_
    | with_reducible refine kr_if ?_ ?_
    | with_reducible refine kr_jn ?_
    | with_reducible exact kr_t (hk _ _) (by assumption))
theorem k_2_ease {a0 : Nat} {g : am_G} (hN : NP a0 g) : KR g (fX2_ease a0 g) := by
  obtain ⟨hp, h0, h1, h2, h3, h4, h5, s1, s2, s3, s4, s5⟩ := hN
  unfold okP at hp
  have e1 := qJ_fill (fx := zc_n) (a := a0 + 2) (len := 6) (by decide) (nI 0) (g := g) s2
  have e2 := qJ_fill (fx := zc_n) (a := a0 + 3) (len := 36) (by decide) (nI 0) (g := am_sr g (a0 + 2) (fun k => if k < 6 then nI 0 else am_I g (a0 + 2) k)) s3
  have run : fX2_ease a0 g = some ((), am_sr (am_sr g (a0 + 2) (fun k => if k < 6 then nI 0 else am_I g (a0 + 2) k)) (a0 + 3) (fun k => if k < 36 then nI 0 else am_I (am_sr g (a0 + 2) (fun k => if k < 6 then nI 0 else am_I g (a0 + 2) k)) (a0 + 3) k)) := by
    unfold fX2_ease
    simp (disch := first | omega | assumption | decide) only [↓pv_let, ↓pv_jn, ↓reduceIte, pv_bd, ↓pv_ocs, ↓pv_ocn, pv_gdt, pe_gd, pe_clamp, pt_eq, pf_eq, pt_le, pf_le, pt_lt, pf_lt, nI_add, nn_mul, pe_sub, pb_0, pb_1, pb_z, pe_ieq, pe_ine, pe_ik, pP_si, pS_si, pn_si, ps_si, pL_si, decide_true, ofNat_nI, pe_srI, pe_srN, pe_srS, pe_srP, not_true_eq_false, not_false_eq_true, true_and, and_true, and_self, false_and, and_false, nI_m1, nI_ms, Nat.add_sub_cancel, pl_0, pl_1, pl_2, pl_3, pl_4, pl_5, pl_6, pl_7, pl_8, pl_9, pl_10, pl_11, pl_12, pl_13, pl_14, pl_15, pl_16, pl_17, pl_18, pl_19, pl_20, pl_21, pl_22, pl_23, pl_24, pl_25, pl_26, pl_27, pl_28, pl_29, pl_30, pl_31, pl_32, pl_34, pl_36, pl_37, pl_40, pl_41, pl_42, pl_43, pl_45, pl_47, pl_48, pl_50, pl_57, pl_59, pl_60, pl_61, pl_62, pl_64, pl_70, pl_91, pl_93, pl_97, pl_98, pl_99, pl_100, pl_106, pl_122, pl_128, pl_136, pl_142, pl_165, pl_168, pl_170, pl_171, pl_173, pl_175, pl_187, pl_188, pl_189, pl_190, pl_206, pl_211, pl_219, pl_229, pl_255, pl_260, pl_400, pl_500, pl_512, pl_900, pl_999, pl_1000, pl_1001, pl_1005, pl_1020, pl_1023, pl_1024, pl_1103, pl_2000, pl_2040, pl_2176, pl_5660, pl_9999, pl_12345, pl_1000000, pl_1000003, pl_100000000, pl_1000000000, pz_0, pz_1, pz_t, h0, h2, h3, e1, e2]
  rw [run]
  exact kr_s (kn_sr (kn_sr (KN.rf g) (by omega)) (by omega))
theorem k_0_ofWeather {a1 : Int32} {a2 : Int32} {g : am_G} : KR g (fX0_ofWeather a1 a2 g) := by
  have h0 := KN.rf g
  unfold fX0_ofWeather
  repeat (first
    | with_reducible exact kr_n
    | with_reducible exact kr_s (by assumption)
    | with_reducible refine kr_gd ?_
    | with_reducible refine kr_ls (kn_sk (by assumption) (by decide)) (fun _ _ => ?_)
    | with_reducible refine kr_ls (kn_si (by assumption) (by first | assumption | decide | exact hN.ne)) (fun _ _ => ?_)
    | with_reducible refine kr_lv (fun _ => ?_)
    | with_reducible refine kr_ll (fun _ => ?_)
    | with_reducible refine kr_ocp hN (by assumption) (by decide) (fun _ _ => ?_) ?_
    | with_reducible refine kr_oc (fun _ => ?_) ?_
    | with_reducible refine kr_if ?_ ?_
    | with_reducible refine kr_jn ?_
    | with_reducible exact kr_t (hk _ _) (by assumption))
theorem k_0_falls {g : am_G} : KR g (fX0_falls g) := by
  have h0 := KN.rf g
  unfold fX0_falls
  repeat (first
    | with_reducible exact kr_n
    | with_reducible exact kr_s (by assumption)
    | with_reducible refine kr_gd ?_
    | with_reducible refine kr_ls (kn_sk (by assumption) (by decide)) (fun _ _ => ?_)
    | with_reducible refine kr_ls (kn_si (by assumption) (by first | assumption | decide | exact hN.ne)) (fun _ _ => ?_)
    | with_reducible refine kr_lv (fun _ => ?_)
    | with_reducible refine kr_ll (fun _ => ?_)
    | with_reducible refine kr_bd (k_0_lastTold) (by assumption) (fun _ _ _ => ?_)
    | with_reducible exact kr_t (k_0_lastTold) (by assumption)
    | with_reducible refine kr_bd (k_11_nearest) (by assumption) (fun _ _ _ => ?_)
    | with_reducible exact kr_t (k_11_nearest) (by assumption)
    | with_reducible refine kr_ocp hN (by assumption) (by decide) (fun _ _ => ?_) ?_
    | with_reducible refine kr_oc (fun _ => ?_) ?_
    | with_reducible refine kr_if ?_ ?_
    | with_reducible refine kr_jn ?_
    | with_reducible exact kr_t (hk _ _) (by assumption))
theorem k_0_thaws {g : am_G} : KR g (fX0_thaws g) := by
  have h0 := KN.rf g
  unfold fX0_thaws
  repeat (first
    | with_reducible exact kr_n
    | with_reducible exact kr_s (by assumption)
    | with_reducible refine kr_gd ?_
    | with_reducible refine kr_ls (kn_sk (by assumption) (by decide)) (fun _ _ => ?_)
    | with_reducible refine kr_ls (kn_si (by assumption) (by first | assumption | decide | exact hN.ne)) (fun _ _ => ?_)
    | with_reducible refine kr_lv (fun _ => ?_)
    | with_reducible refine kr_ll (fun _ => ?_)
    | with_reducible refine kr_bd (k_0_lastTold) (by assumption) (fun _ _ _ => ?_)
    | with_reducible exact kr_t (k_0_lastTold) (by assumption)
    | with_reducible refine kr_bd (k_11_nearest) (by assumption) (fun _ _ _ => ?_)
    | with_reducible exact kr_t (k_11_nearest) (by assumption)
    | with_reducible refine kr_ocp hN (by assumption) (by decide) (fun _ _ => ?_) ?_
    | with_reducible refine kr_oc (fun _ => ?_) ?_
    | with_reducible refine kr_if ?_ ?_
    | with_reducible refine kr_jn ?_
    | with_reducible exact kr_t (hk _ _) (by assumption))
theorem k_11_passNight_L23 (a1 : Nat) : ∀ (n : Nat) (x0 : Int32) (g : am_G), NP a1 g → KR g (fX11_passNight_L23 a1 n x0 g) := by
  intro n
  induction n with
  | zero =>
    intro x0 g _
    exact kr_n
  | succ n ih =>
    intro x0 g hN
    have h0 := KN.rf g
    rw [fX11_passNight_L23]
    repeat (first
      | with_reducible exact kr_n
      | with_reducible exact kr_s (by assumption)
      | with_reducible refine kr_gd ?_
      | with_reducible refine kr_ls (kn_sk (by assumption) (by decide)) (fun _ _ => ?_)
      | with_reducible refine kr_ls (kn_si (by assumption) (by first | assumption | decide | exact hN.ne)) (fun _ _ => ?_)
      | with_reducible refine kr_lv (fun _ => ?_)
      | with_reducible refine kr_ll (fun _ => ?_)
      | with_reducible refine kr_bd ((ih _ _ (hN.kn (by assumption)))) (by assumption) (fun _ _ _ => ?_)
      | with_reducible exact kr_t ((ih _ _ (hN.kn (by assumption)))) (by assumption)
      | with_reducible refine kr_bd (k_2_ease (hN.kn (by assumption))) (by assumption) (fun _ _ _ => ?_)
      | with_reducible exact kr_t (k_2_ease (hN.kn (by assumption))) (by assumption)
      | with_reducible refine kr_bd (k_2_slideAll (hN.kn (by assumption))) (by assumption) (fun _ _ _ => ?_)
      | with_reducible exact kr_t (k_2_slideAll (hN.kn (by assumption))) (by assumption)
      | with_reducible refine kr_bd (k_0_ofWeather) (by assumption) (fun _ _ _ => ?_)
      | with_reducible exact kr_t (k_0_ofWeather) (by assumption)
      | with_reducible refine kr_bd (k_0_falls) (by assumption) (fun _ _ _ => ?_)
      | with_reducible exact kr_t (k_0_falls) (by assumption)
      | with_reducible refine kr_bd (k_0_thaws) (by assumption) (fun _ _ _ => ?_)
      | with_reducible exact kr_t (k_0_thaws) (by assumption)
      | with_reducible refine kr_bd (k_11_nearest) (by assumption) (fun _ _ _ => ?_)
      | with_reducible exact kr_t (k_11_nearest) (by assumption)
      | with_reducible refine kr_ocp hN (by assumption) (by decide) (fun _ _ => ?_) ?_
      | with_reducible refine kr_oc (fun _ => ?_) ?_
      | with_reducible refine kr_if ?_ ?_
      | with_reducible refine kr_jn ?_
      | with_reducible exact kr_t (hk _ _) (by assumption))
theorem k_11_passNight {a1 : Nat} {g : am_G} (hN : NP a1 g) : KR g (fX11_passNight a1 g) := by
  have h0 := KN.rf g
  unfold fX11_passNight
  repeat (first
    | with_reducible exact kr_n
    | with_reducible exact kr_s (by assumption)
    | with_reducible refine kr_gd ?_
    | with_reducible refine kr_ls (kn_sk (by assumption) (by decide)) (fun _ _ => ?_)
    | with_reducible refine kr_ls (kn_si (by assumption) (by first | assumption | decide | exact hN.ne)) (fun _ _ => ?_)
    | with_reducible refine kr_lv (fun _ => ?_)
    | with_reducible refine kr_ll (fun _ => ?_)
    | with_reducible refine kr_bd (k_0_onDay) (by assumption) (fun _ _ _ => ?_)
    | with_reducible exact kr_t (k_0_onDay) (by assumption)
    | with_reducible refine kr_bd (k_11_passNight_L23 _ _ _ _ (hN.kn (by assumption))) (by assumption) (fun _ _ _ => ?_)
    | with_reducible exact kr_t (k_11_passNight_L23 _ _ _ _ (hN.kn (by assumption))) (by assumption)
    | with_reducible refine kr_ocp hN (by assumption) (by decide) (fun _ _ => ?_) ?_
    | with_reducible refine kr_oc (fun _ => ?_) ?_
    | with_reducible refine kr_if ?_ ?_
    | with_reducible refine kr_jn ?_
    | with_reducible exact kr_t (hk _ _) (by assumption))
theorem k_0_bars {g : am_G} : KR g (fX0_bars g) := by
  have h0 := KN.rf g
  unfold fX0_bars
  repeat (first
    | with_reducible exact kr_n
    | with_reducible exact kr_s (by assumption)
    | with_reducible refine kr_gd ?_
    | with_reducible refine kr_ls (kn_sk (by assumption) (by decide)) (fun _ _ => ?_)
    | with_reducible refine kr_ls (kn_si (by assumption) (by first | assumption | decide | exact hN.ne)) (fun _ _ => ?_)
    | with_reducible refine kr_lv (fun _ => ?_)
    | with_reducible refine kr_ll (fun _ => ?_)
    | with_reducible refine kr_bd (k_0_lastTold) (by assumption) (fun _ _ _ => ?_)
    | with_reducible exact kr_t (k_0_lastTold) (by assumption)
    | with_reducible refine kr_ocp hN (by assumption) (by decide) (fun _ _ => ?_) ?_
    | with_reducible refine kr_oc (fun _ => ?_) ?_
    | with_reducible refine kr_if ?_ ?_
    | with_reducible refine kr_jn ?_
    | with_reducible exact kr_t (hk _ _) (by assumption))
theorem k_11_isBarred {a1 : Nat} {a2 : Int32} {a3 : Int32} {a4 : Int32} {g : am_G} (hN : NP a1 g) : KR g (fX11_isBarred a1 a2 a3 a4 g) := by
  have h0 := KN.rf g
  unfold fX11_isBarred
  repeat (first
    | with_reducible exact kr_n
    | with_reducible exact kr_s (by assumption)
    | with_reducible refine kr_gd ?_
    | with_reducible refine kr_ls (kn_sk (by assumption) (by decide)) (fun _ _ => ?_)
    | with_reducible refine kr_ls (kn_si (by assumption) (by first | assumption | decide | exact hN.ne)) (fun _ _ => ?_)
    | with_reducible refine kr_lv (fun _ => ?_)
    | with_reducible refine kr_ll (fun _ => ?_)
    | with_reducible refine kr_bd (k_0_onDay) (by assumption) (fun _ _ _ => ?_)
    | with_reducible exact kr_t (k_0_onDay) (by assumption)
    | with_reducible refine kr_bd (k_0_ofSaid) (by assumption) (fun _ _ _ => ?_)
    | with_reducible exact kr_t (k_0_ofSaid) (by assumption)
    | with_reducible refine kr_bd (k_0_bars) (by assumption) (fun _ _ _ => ?_)
    | with_reducible exact kr_t (k_0_bars) (by assumption)
    | with_reducible refine kr_ocp hN (by assumption) (by decide) (fun _ _ => ?_) ?_
    | with_reducible refine kr_oc (fun _ => ?_) ?_
    | with_reducible refine kr_if ?_ ?_
    | with_reducible refine kr_jn ?_
    | with_reducible exact kr_t (hk _ _) (by assumption))

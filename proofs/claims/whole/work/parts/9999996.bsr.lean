/-! ===== bring: the class's search ===== -/
section SRC
variable {q : Option pLw} {ρ0 : Row} {O pl tg : Nat} {op : Nat → Bool} {SH : Nat → Nat → Nat → Nat} {hd bl : Nat → Nat} {gg ld : Nat → Bool}
def FSr (v : Nat) (g g' : am_G) : Prop := g'.2 = g.2 ∧ ∀ a j, a ≠ 37 → a ≠ 38 → ¬ (54 ≤ a ∧ a ≤ 57) → ¬ ((a = 58 ∨ a = 59) ∧ 6 * (v + 1) ≤ j) → ¬ (a = 60 ∧ 6 * v ≤ j) → ¬ (a = 61 ∧ v ≤ j) → am_I g' a j = am_I g a j
theorem FSr.rf (v : Nat) (g : am_G) : FSr v g g := ⟨rfl, fun _ _ _ _ _ _ _ _ => rfl⟩
theorem FSr.tr {v : Nat} {g h i : am_G} (h1 : FSr v g h) (h2 : FSr v h i) : FSr v g i := ⟨h2.1.trans h1.1, fun a j x1 x2 x3 x4 x5 x6 => (h2.2 a j x1 x2 x3 x4 x5 x6).trans (h1.2 a j x1 x2 x3 x4 x5 x6)⟩
theorem FSr.mo {v : Nat} {g h : am_G} (h1 : FSr (v + 1) g h) : FSr v g h := ⟨h1.1, fun a j x1 x2 x3 x4 x5 x6 => h1.2 a j x1 x2 x3 (by omega) (by omega) (by omega)⟩
theorem FLv.R {v : Nat} {g h : am_G} (h1 : FLv (v + 1) g h) : FSr v g h := ⟨h1.1, fun a j _ _ _ x4 _ _ => h1.2 a j (fun z => x4 ⟨z.1, z.2.1⟩)⟩
theorem FSr.B {v : Nat} {g h : am_G} (f : FSr v g h) : FcB g h := ⟨f.1, fun a x y z => funext fun j => f.2 a j x y (by omega) (by omega) (by omega) (by omega)⟩
/-- what stands at level v -/
def SVl (q : Option pLw) (ρ0 : Row) (O pl tg : Nat) (op : Nat → Bool) (SH : Nat → Nat → Nat → Nat) (hd bl : Nat → Nat) (gg ld : Nat → Bool) (C v : Nat) (X : Xst) (M : Nat) (g : am_G) : Prop := OpC O pl op g ∧ BFc q ρ0 g ∧ FxC tg hd bl gg ld g ∧ CacV O op SH M g ∧ LvX C v g X
theorem SVl.fs {C v M M' : Nat} {X : Xst} {g g' : am_G} (h : SVl q ρ0 O pl tg op SH hd bl gg ld C v X M g) (f : FSr v g g') (hB : BFc q ρ0 g') (hC : CacV O op SH M' g') : SVl q ρ0 O pl tg op SH hd bl gg ld C v X M' g' := by
  obtain ⟨h1, h2, h3, h4, h5⟩ := h
  have e : ∀ a, 51 ≤ a → a < 54 → am_I g' a = am_I g a := fun a x y => funext fun j => f.2 a j (by omega) (by omega) (by omega) (by omega) (by omega) (by omega)
  refine ⟨h1.cg (e 51 (by omega) (by omega)) (e 52 (by omega) (by omega)), hB, h3.cg f.B (e 51 (by omega) (by omega)) (e 53 (by omega) (by omega)), hC, fun s hs => ?_⟩
  rw [f.2 58 _ (by decide) (by decide) (by omega) (by omega) (by omega) (by omega), f.2 59 _ (by decide) (by decide) (by omega) (by omega) (by omega) (by omega)]
  exact h5 s hs
theorem CacV.cg {M : Nat} {g g' : am_G} (h : CacV O op SH M g) (e : ∀ a, 54 ≤ a → a ≤ 57 → am_I g' a = am_I g a) : CacV O op SH M g' := fun s hs => by
  obtain ⟨md, w1, w2, w3⟩ := h s hs
  refine ⟨md, by rw [e 56 (by decide) (by decide)]; exact w1, w2, fun i h1 h2 => ?_⟩
  obtain ⟨a, ha, u⟩ := w3 i h1 h2
  exact ⟨a, ha, u.cg (by rw [e 54 (by decide) (by decide)]) (by rw [e 55 (by decide) (by decide)]) (fun o _ => by rw [e 57 (by decide) (by decide)])⟩
theorem CacV.le {M M' : Nat} {g : am_G} (h : CacV O op SH M g) (hM : M ≤ M') : CacV O op SH M' g := fun s hs => by
  obtain ⟨md, w1, w2, w3⟩ := h s hs
  exact ⟨md, w1, by omega, w3⟩
theorem LkX.cg {v : Nat} {X : Xst} {g g' : am_G} (h : LkX O op SH v g X 6) (e : ∀ a, 54 ≤ a → a ≤ 57 → am_I g' a = am_I g a) (e60 : ∀ j, j < 6 * (v + 1) → am_I g' 60 j = am_I g 60 j) : LkX O op SH v g' X 6 := fun s hs => by
  obtain ⟨i, i1, i2, u⟩ := h s hs
  exact ⟨i, i1, by rw [e60 _ (by omega)]; exact i2, u.cg (by rw [e 54 (by decide) (by decide)]) (by rw [e 55 (by decide) (by decide)]) (fun o _ => by rw [e 57 (by decide) (by decide)])⟩
def chL (g : am_G) : Nat → List Nat → Prop
  | _, [] => True
  | v, o :: l => am_I g 61 v = nI o ∧ chL g (v + 1) l
/-- how the class's search ends -/
def SRs (q : Option pLw) (ρ0 : Row) (O : Nat) (op : Nat → Bool) (SH : Nat → Nat → Nat → Nat) (v M : Nat) (F : Option (List Nat)) (R : Option (Int32 × am_G)) (g : am_G) : Prop := (F = none ∧ ∃ g', R = some (nI 0, g') ∧ FSr v g g' ∧ BFc q ρ0 g' ∧ CacV O op SH M g') ∨ (∃ l g', F = some l ∧ R = some (nI 1, g') ∧ FSr v g g' ∧ chL g' v l)
theorem SRs.pre {v M : Nat} {F : Option (List Nat)} {R : Option (Int32 × am_G)} {g g1 : am_G} (f : FSr v g g1) (h : SRs q ρ0 O op SH v M F R g1) : SRs q ρ0 O op SH v M F R g := by
  rcases h with ⟨h1, g', h2, h3, h4⟩ | ⟨l, g', h1, h2, h3, h4⟩
  · exact Or.inl ⟨h1, g', h2, f.tr h3, h4⟩
  · exact Or.inr ⟨l, g', h1, h2, f.tr h3, h4⟩
theorem fstO_s {T : Nat → Option (List Nat)} {m o : Nat} {l : List Nat} (h : T o = some l) : fstO T (m + 1) o = some l := by
  rw [fstO, h]
theorem fstO_n {T : Nat → Option (List Nat)} {m o : Nat} (h : T o = none) : fstO T (m + 1) o = fstO T m (o + 1) := by
  rw [fstO, h]
theorem mkNe {m : Nat} (h : m < 64) : ¬ nI m = (-1 : Int32) := nI_m1ne (by omega)
theorem MKs.z {m : Nat} {sl : Nat → Bool} (h : MKs m sl) : m = 0 ↔ ∀ t, t < 6 → sl t = false := by
  rw [mskZ m h.1]
  constructor
  · intro z t ht
    exact Bool.eq_false_iff.mpr fun y => z t ht ((h.2 t ht).mpr y)
  · intro z t ht y
    exact absurd ((h.2 t ht).mp y) (by rw [z t ht]; exact Bool.false_ne_true)
theorem srL1 {rec : Int32 → Int32 → Int32 → am_G → Option (Int32 × am_G)} {a3 : Int32} {C v M : Nat} {X : Xst} (hv : v < 3) (hC : C + 999 ≤ 1500000000) (hO : O ≤ 48) (htg : tg < 6) (hSH1 : ∀ o s a, SH o s a ≤ 999) (hld : LdX bl tg ld) (hbl : ∀ s, s < 6 → bl s < 6 → s < bl s) : ∀ (e o fu : Nat) (g : am_G), o + e = O → e < fu → SVl q ρ0 O pl tg op SH hd bl gg ld C v X M g → LkX O op SH v g X 6 → SRs q ρ0 O op SH v M (fstO (tryX op SH hd bl gg tg false none X) e o) (fX1_search_L19 rec (nI v) (nI 1) a3 fu (nI o) g) g
  | 0, o, fu, g, he, hfu, hS, hK => by
    obtain ⟨fu, rfl⟩ : ∃ m', fu = m' + 1 := ⟨fu - 1, by omega⟩
    left
    refine ⟨rfl, g, ?_, FSr.rf v g, hS.2.1, hS.2.2.2.1⟩
    rw [fX1_search_L19, hS.1.1, if_pos ((nI_leI (by omega) (by omega)).mpr (by omega))]
    rfl
  | e + 1, o, fu, g, he, hfu, hS, hK => by
    obtain ⟨fu, rfl⟩ : ∃ m', fu = m' + 1 := ⟨fu - 1, by omega⟩
    have hfuu : am_fu = 1048576 := rfl
    have ho : o < O := by omega
    have eo : nI o + (1 : Int32) = nI (o + 1) := nI_add o 1
    -- on to the next
    have next : ∀ g1, FSr v g g1 → (∀ a j, ¬ ((a = 58 ∨ a = 59) ∧ 6 * (v + 1) ≤ j) → ¬ (a = 61 ∧ j = v) → am_I g1 a j = am_I g a j) → tryX op SH hd bl gg tg false none X o = none → SRs q ρ0 O op SH v M (fstO (tryX op SH hd bl gg tg false none X) (e + 1) o) (fX1_search_L19 rec (nI v) (nI 1) a3 fu (nI (o + 1)) g1) g := by
      intro g1 f1 k1 hT
      rw [fstO_n hT]
      have hB1 : BFc q ρ0 g1 := hS.2.1.fb f1.B (k1 37 20 (by omega) (by omega)) (k1 37 22 (by omega) (by omega))
      have c1 : ∀ a, 54 ≤ a → a ≤ 57 → am_I g1 a = am_I g a := fun a x y => funext fun j => k1 a j (by omega) (by omega)
      exact SRs.pre f1 (srL1 hv hC hO htg hSH1 hld hbl e (o + 1) fu g1 (by omega) (by omega) (hS.fs f1 hB1 (hS.2.2.2.1.cg c1)) (hK.cg c1 (fun j _ => k1 60 j (by omega) (by omega))))
    rw [fX1_search_L19, hS.1.1, if_neg (fun z => absurd ((nI_leI (by omega) (by omega)).mp z) (by omega)), pe_gd (show o < 48 by omega) (by decide), pu_jn]
    dsimp only
    rw [pe_clamp (show o < 2147483648 by omega), hS.1.2.2 o ho]
    by_cases hop : op o = true
    · rw [if_pos hop, if_neg (show ¬ nI 1 = (0 : Int32) by decide), pu_jn]
      dsimp only
      rw [if_pos (show nI 1 = (1 : Int32) from rfl)]
      unfold fX1_stirs
      rcases stirL (C := C) (by omega) hv ho hO hop hSH1 hS.2.2.1 hS.2.2.2.2 hK 6 0 am_fu (by omega) (by omega) (fun t ht => absurd ht (by omega)) with st | ⟨st, hno⟩
      · rw [show fX1_stirs_L2 (nI v) (nI o) am_fu (0 : Int32) g = some (nI 1, g) from st, pu_bd, if_neg (show ¬ nI 1 = (0 : Int32) by decide)]
        obtain ⟨r1, r2⟩ := q1_speak hv hC ho hO hop hSH1 hS.2.2.1 hS.2.2.2.2 hK
        cases hs : stepX SH hd bl gg o X with
        | none =>
          obtain ⟨g1, y1, y2⟩ := r1 hs
          rw [y1, pu_bd, if_pos rfl, pu_let, eo]
          refine next g1 y2.R (fun a j x _ => y2.2 a j (fun z => x ⟨z.1, z.2.1⟩)) ?_
          unfold tryX
          rw [if_pos hop, hs]
        | some z =>
          obtain ⟨X', sl⟩ := z
          obtain ⟨g1, mq, y1, y2, y3, y4⟩ := r2 X' sl hs
          have hT : tryX op SH hd bl gg tg false none X o = if sl tg = true then some [o] else none := by
            unfold tryX
            rw [if_pos hop, hs]
          rw [y1, pu_bd, if_neg (mkNe y3.1), pu_jn]
          dsimp only
          have k1 : ∀ a j, ¬ ((a = 58 ∨ a = 59) ∧ 6 * (v + 1) ≤ j) → am_I g1 a j = am_I g a j := fun a j x => y2.2 a j (fun z => x ⟨z.1, z.2.1⟩)
          by_cases hz : mq = 0
          · have hsl := y3.z.mp hz tg htg
            rw [if_pos (by rw [hz]; rfl), if_pos (show nI 1 = (1 : Int32) from rfl), pu_let, eo]
            exact next g1 y2.R (fun a j x _ => k1 a j x) (by rw [hT, hsl]; rfl)
          · have f2 : FSr v g (am_si g1 61 v (nI o)) := y2.R.tr ⟨rfl, fun a j _ _ _ _ _ x6 => by rw [pI_si, if_neg (fun z => x6 ⟨z.1, by omega⟩)]⟩
            have e13 : am_I (am_si g1 61 v (nI o)) 51 13 = nI tg := by rw [pe_ine (by decide), k1 51 13 (by omega)]; exact hS.2.2.1.1
            rw [if_neg (show ¬ nI mq = (0 : Int32) from fun z => hz ((nn_eq (b := 0) (by have := y3.1; omega) (by decide)).mp z)), pe_gd (show v < 3 from hv) (by decide), pu_let, pe_clamp (show v < 2147483648 by omega), if_pos (show nI 1 = (1 : Int32) from rfl), e13, mskT mq y3.1 tg htg]
            by_cases hb : mq / 2 ^ tg % 2 = 1
            · rw [hb, if_pos (show nI 1 = (1 : Int32) from rfl)]
              right
              refine ⟨[o], _, fstO_s (by rw [hT, if_pos ((y3.2 tg htg).mp hb)]), rfl, f2, pe_ieq _ _ _ _, trivial⟩
            · have hb0 : mq / 2 ^ tg % 2 = 0 := by have := Nat.mod_lt (mq / 2 ^ tg) (show 0 < 2 by decide); omega
              rw [hb0, if_neg (show ¬ nI 0 = (1 : Int32) by decide), pu_let, eo]
              exact next _ f2 (fun a j x y => by rw [pI_si, if_neg (fun z => y ⟨z.1, z.2⟩)]; exact k1 a j x) (by rw [hT, if_neg (fun z => hb ((y3.2 tg htg).mpr z))])
      · rw [show fX1_stirs_L2 (nI v) (nI o) am_fu (0 : Int32) g = some (nI 0, g) from st, pu_bd, if_pos (show nI 0 = (0 : Int32) from rfl), pu_let, eo]
        refine next g (FSr.rf v g) (fun _ _ _ _ => rfl) ?_
        unfold tryX
        rw [if_pos hop]
        cases hs : stepX SH hd bl gg o X with
        | none => rfl
        | some z =>
          obtain ⟨X', sl⟩ := z
          have := (noHit htg hld hbl hno hs).1
          show (if sl tg = true then some [o] else none) = none
          rw [this]
          rfl
    · rw [if_neg hop, if_pos (show nI 0 = (0 : Int32) from rfl), pu_let, eo]
      exact next g (FSr.rf v g) (fun _ _ _ _ => rfl) (by unfold tryX; rw [if_neg hop])
/-- what calm rests on -/
def HcX (O : Nat) (op : Nat → Bool) (SH : Nat → Nat → Nat → Nat) (hd bl : Nat → Nat) (gg : Nat → Bool) (tg d : Nat) (X : Xst) (a : Nat) : Prop := ∀ o, o < a → op o = true → ∀ X'' sl, stepX SH hd bl gg o X = some (X'', sl) → (∀ t, t < 6 → sl t = false) → brX O op SH hd bl gg tg false d X'' = none
theorem c999 {C d : Nat} (h : C + 999 * (d + 2) ≤ 1500000000) : C + 999 ≤ 1500000000 ∧ C + 999 + 999 * (d + 1) ≤ 1500000000 := by omega
def LUf : Nat → Nat
  | 0 => 0
  | d + 1 => 6 + 48 * (LUf d + 6)
theorem srL2 {rec : Int32 → Int32 → Int32 → am_G → Option (Int32 × am_G)} {a C v d Z : Nat} (hZ : Z ≤ 2000000000) {X : Xst} (hv : v + (d + 2) ≤ 3) (hC : C + 999 * (d + 2) ≤ 1500000000) (hO : O ≤ 48) (hpl : pl < 4) (hV : okV ρ0) (hSH : ShF q ρ0 pl SH) (htg : tg < 6) (hld : LdX bl tg ld) (hbl : ∀ s, s < 6 → bl s < 6 → s < bl s) (ha : a ≤ 48) (hH : HcX O op SH hd bl gg tg (d + 1) X a)
    (hrec : ∀ (a' M : Nat) (X' : Xst) (g : am_G), a' ≤ 48 → M + LUf (d + 1) < Z → HcX O op SH hd bl gg tg d X' a' → SVl q ρ0 O pl tg op SH hd bl gg ld (C + 999) (v + 1) X' M g → SRs q ρ0 O op SH (v + 1) (M + LUf (d + 1)) (brX O op SH hd bl gg tg false (d + 1) X') (rec (nI (v + 1)) (nI (d + 1)) (nI a') g) g) :
    ∀ (e o fu M : Nat) (g : am_G), o + e = O → e < fu → M + e * (LUf (d + 1) + 6) < Z → (∀ o', o' < o → tryX op SH hd bl gg tg false (some (brX O op SH hd bl gg tg false (d + 1))) X o' = none) → SVl q ρ0 O pl tg op SH hd bl gg ld C v X M g → LkX O op SH v g X 6 → SRs q ρ0 O op SH v (M + e * (LUf (d + 1) + 6)) (fstO (tryX op SH hd bl gg tg false (some (brX O op SH hd bl gg tg false (d + 1))) X) e o) (fX1_search_L19 rec (nI v) (nI (d + 2)) (nI a) fu (nI o) g) g := by
  intro e
  induction e with
  | zero =>
    intro o fu M g he hfu hM hT hS hK
    obtain ⟨fu, rfl⟩ : ∃ m', fu = m' + 1 := ⟨fu - 1, by omega⟩
    left
    refine ⟨rfl, g, ?_, FSr.rf v g, hS.2.1, hS.2.2.2.1.le (by omega)⟩
    rw [fX1_search_L19, hS.1.1, if_pos ((nI_leI (by omega) (by omega)).mpr (by omega))]
    rfl
  | succ e ihe =>
    intro o fu M g he hfu hM hT hS hK
    obtain ⟨fu, rfl⟩ : ∃ m', fu = m' + 1 := ⟨fu - 1, by omega⟩
    have ho : o < O := by omega
    have hSH1 := hSH.1
    have eo : nI o + (1 : Int32) = nI (o + 1) := nI_add o 1
    rw [Nat.add_mul, Nat.one_mul] at hM
    have e2ne : ¬ nI (d + 2) = (1 : Int32) := fun z => absurd ((nn_eq (b := 1) (by omega) (by decide)).mp z) (by omega)
    -- on to the next
    have next : ∀ (g1 : am_G) (M' : Nat), M' ≤ M + LUf (d + 1) + 6 → FSr v g g1 → SVl q ρ0 O pl tg op SH hd bl gg ld C v X M' g1 → LkX O op SH v g1 X 6 → tryX op SH hd bl gg tg false (some (brX O op SH hd bl gg tg false (d + 1))) X o = none → SRs q ρ0 O op SH v (M + (e + 1) * (LUf (d + 1) + 6)) (fstO (tryX op SH hd bl gg tg false (some (brX O op SH hd bl gg tg false (d + 1))) X) (e + 1) o) (fX1_search_L19 rec (nI v) (nI (d + 2)) (nI a) fu (nI (o + 1)) g1) g := by
      intro g1 M' hM' f1 hS1 hK1 hTo
      rw [fstO_n hTo]
      have := SRs.pre f1 (ihe (o + 1) fu M' g1 (by omega) (by omega) (by omega) (fun o' h => by
        by_cases z : o' = o
        · subst z; exact hTo
        · exact hT o' (by omega)) hS1 hK1)
      rcases this with ⟨h1, g', h2, h3, h4, h5⟩ | h1
      · exact Or.inl ⟨h1, g', h2, h3, h4, h5.le (by rw [Nat.add_mul, Nat.one_mul]; omega)⟩
      · exact Or.inr h1
    have nextS : ∀ (g1 : am_G), FSr v g g1 → (∀ a j, ¬ ((a = 58 ∨ a = 59) ∧ 6 * (v + 1) ≤ j) → ¬ (a = 61 ∧ j = v) → am_I g1 a j = am_I g a j) → tryX op SH hd bl gg tg false (some (brX O op SH hd bl gg tg false (d + 1))) X o = none → SRs q ρ0 O op SH v (M + (e + 1) * (LUf (d + 1) + 6)) (fstO (tryX op SH hd bl gg tg false (some (brX O op SH hd bl gg tg false (d + 1))) X) (e + 1) o) (fX1_search_L19 rec (nI v) (nI (d + 2)) (nI a) fu (nI (o + 1)) g1) g := by
      intro g1 f1 k1 hTo
      have hB1 : BFc q ρ0 g1 := hS.2.1.fb f1.B (k1 37 20 (by omega) (by omega)) (k1 37 22 (by omega) (by omega))
      have c1 : ∀ a, 54 ≤ a → a ≤ 57 → am_I g1 a = am_I g a := fun a x y => funext fun j => k1 a j (by omega) (by omega)
      exact next g1 M (by omega) f1 (hS.fs f1 hB1 (hS.2.2.2.1.cg c1)) (hK.cg c1 (fun j _ => k1 60 j (by omega) (by omega))) hTo
    rw [fX1_search_L19, hS.1.1, if_neg (fun z => absurd ((nI_leI (by omega) (by omega)).mp z) (by omega)), pe_gd (show o < 48 by omega) (by decide), pu_jn]
    dsimp only
    rw [pe_clamp (show o < 2147483648 by omega), hS.1.2.2 o ho]
    by_cases hop : op o = true
    · rw [if_pos hop, if_neg (show ¬ nI 1 = (0 : Int32) by decide), pu_jn]
      dsimp only
      rw [if_neg e2ne]
      have hC1 := (c999 hC).1
      have hv3 : v < 3 := by omega
      obtain ⟨r1, r2⟩ := q1_speak (C := C) hv3 hC1 ho hO hop hSH1 hS.2.2.1 hS.2.2.2.2 hK
      cases hs : stepX SH hd bl gg o X with
      | none =>
        obtain ⟨g1, y1, y2⟩ := r1 hs
        rw [y1, pu_bd, if_pos rfl, pu_let, eo]
        refine nextS g1 y2.R (fun a j x _ => y2.2 a j (fun z => x ⟨z.1, z.2.1⟩)) ?_
        unfold tryX
        rw [if_pos hop, hs]
      | some z =>
        obtain ⟨X', sl⟩ := z
        obtain ⟨g1, mq, y1, y2, y3, y4⟩ := r2 X' sl hs
        have hTo : tryX op SH hd bl gg tg false (some (brX O op SH hd bl gg tg false (d + 1))) X o = (brX O op SH hd bl gg tg false (d + 1) X').map (fun l => o :: l) := by
          unfold tryX
          rw [if_pos hop, hs]
          exact if_neg (fun z => by cases z.1)
        have k1 : ∀ a j, ¬ ((a = 58 ∨ a = 59) ∧ 6 * (v + 1) ≤ j) → am_I g1 a j = am_I g a j := fun a j x => y2.2 a j (fun z => x ⟨z.1, z.2.1⟩)
        rw [y1, pu_bd, if_neg (mkNe y3.1), pu_jn]
        dsimp only
        -- deeper
        have deep : ∀ a', a' ≤ 48 → HcX O op SH hd bl gg tg d X' a' → SRs q ρ0 O op SH v (M + (e + 1) * (LUf (d + 1) + 6)) (fstO (tryX op SH hd bl gg tg false (some (brX O op SH hd bl gg tg false (d + 1))) X) (e + 1) o) (am_bd (rec (nI v + (1 : Int32)) (nI (d + 2) - (1 : Int32)) (nI a') (am_si g1 61 v (nI o))) fun v33 g34 => if v33 = 0 then (am_bd (fX1_lookUp (nI v) g34) fun u37 g38 => am_let (nI o + (1 : Int32)) fun x15 => fX1_search_L19 rec (nI v) (nI (d + 2)) (nI a) fu x15 g38) else some ((1 : Int32), g34)) g := by
          intro a' ha' hH'
          have f2 : FSr v g (am_si g1 61 v (nI o)) := y2.R.tr ⟨rfl, fun a j _ _ _ _ _ x6 => by rw [pI_si, if_neg (fun z => x6 ⟨z.1, by omega⟩)]⟩
          have k2 : ∀ a j, ¬ ((a = 58 ∨ a = 59) ∧ 6 * (v + 1) ≤ j) → ¬ (a = 61 ∧ j = v) → am_I (am_si g1 61 v (nI o)) a j = am_I g a j := fun a j x y => by rw [pI_si, if_neg (fun z => y ⟨z.1, z.2⟩)]; exact k1 a j x
          have hB2 : BFc q ρ0 (am_si g1 61 v (nI o)) := hS.2.1.fb f2.B (k2 37 20 (by omega) (by omega)) (k2 37 22 (by omega) (by omega))
          have c2 : ∀ a, 54 ≤ a → a ≤ 57 → am_I (am_si g1 61 v (nI o)) a = am_I g a := fun a x y => funext fun j => k2 a j (by omega) (by omega)
          have hS2 := hS.fs f2 hB2 (hS.2.2.2.1.cg c2)
          have hS3 : SVl q ρ0 O pl tg op SH hd bl gg ld (C + 999) (v + 1) X' M (am_si g1 61 v (nI o)) := ⟨hS2.1, hS2.2.1, hS2.2.2.1, hS2.2.2.2.1, fun s hs' => by rw [pe_ine (by decide), pe_ine (by decide)]; exact y4 s hs'⟩
          have ih := hrec a' M X' (am_si g1 61 v (nI o)) ha' (by omega) hH' hS3
          rw [show nI v + (1 : Int32) = nI (v + 1) from nI_add v 1, show nI (d + 2) - (1 : Int32) = nI (d + 1) from nI_ms (d + 1)]
          rcases ih with ⟨h1, g3, h2, h3, h4, h5⟩ | ⟨l, g3, h1, h2, h3, h4⟩
          · rw [h2, pu_bd, if_pos (show nI 0 = (0 : Int32) from rfl)]
            have f3 : FSr v g g3 := f2.tr h3.mo
            have hS4 := hS.fs f3 h4 h5
            obtain ⟨g4, w1, w2, w3, w4, w5⟩ := q1_lookUp (C := C) (by omega) hO hpl hV hSH (by omega) hS4.1 hS4.2.1 hS4.2.2.2.1 hS4.2.2.2.2
            have f4 : FSr v g3 g4 := ⟨w2.1, fun a j x1 x2 x3 x4 x5 _ => w2.2 a j x1 x2 x3 (fun z => x5 ⟨z.1, z.2.1⟩)⟩
            rw [w1, pu_bd, pu_let, eo]
            exact next g4 (M + LUf (d + 1) + 6) (Nat.le_refl _) (f3.tr f4) (hS4.fs f4 w3 w4) w5 (by rw [hTo, h1]; rfl)
          · rw [h2, pu_bd, if_neg (show ¬ nI 1 = (0 : Int32) by decide)]
            right
            refine ⟨o :: l, g3, fstO_s (by rw [hTo, h1]; rfl), rfl, f2.tr h3.mo, ?_, h4⟩
            rw [h3.2 61 v (by decide) (by decide) (by omega) (by omega) (by omega) (by omega), pe_ieq]
        by_cases hz : mq = 0
        · have hcalm := y3.z.mp hz
          have hcX : HcX O op SH hd bl gg tg d X' o := by
            intro o'' h1 h2 X'' sl'' h3 h4
            cases d with
            | zero => rfl
            | succ d =>
              refine calmNo (o := o'') ho hop hs hcalm h3 h4 fun Y s1 hY => ?_
              have hn := hT o'' h1
              unfold tryX at hn
              rw [if_pos h2, hY] at hn
              have hn : (if false = true ∧ s1 tg = true then none else (brX O op SH hd bl gg tg false (d + 1 + 1) Y).map (fun l => o'' :: l)) = none := hn
              rw [if_neg (fun z => by cases z.1)] at hn
              cases hb : brX O op SH hd bl gg tg false (d + 1 + 1) Y with
              | none => rfl
              | some l => rw [hb] at hn; cases hn
          rw [if_pos (by rw [hz]; rfl), if_neg e2ne]
          by_cases hao : a ≤ o
          · rw [if_pos ((nI_leI (by omega) (by omega)).mpr hao), pe_gd (show v < 3 by omega) (by decide), pu_let, pe_clamp (show v < 2147483648 by omega), if_neg e2ne, pu_jn]
            dsimp only
            rw [if_pos (by rw [hz]; rfl)]
            exact deep o (by omega) hcX
          · rw [if_neg (fun z => hao ((nI_leI (by omega) (by omega)).mp z)), pu_let, eo]
            refine nextS g1 y2.R (fun a j x _ => k1 a j x) ?_
            rw [hTo, hH o (by omega) hop X' sl hs hcalm]
            rfl
        · have hzi : ¬ nI mq = (0 : Int32) := fun z => hz ((nn_eq (b := 0) (by have := y3.1; omega) (by decide)).mp z)
          rw [if_neg hzi, pe_gd (show v < 3 by omega) (by decide), pu_let, pe_clamp (show v < 2147483648 by omega), if_neg e2ne, pu_jn]
          dsimp only
          rw [if_neg hzi]
          exact deep 0 (by omega) (fun o'' h1 => absurd h1 (by omega))
    · rw [if_neg hop, if_pos (show nI 0 = (0 : Int32) from rfl), pu_let, eo]
      exact nextS g (FSr.rf v g) (fun _ _ _ _ => rfl) (by unfold tryX; rw [if_neg hop])
theorem srS {Z : Nat} (hZ : Z ≤ 2000000000) (hO : O ≤ 48) (hpl : pl < 4) (hV : okV ρ0) (hSH : ShF q ρ0 pl SH) (htg : tg < 6) (hld : LdX bl tg ld) (hbl : ∀ s, s < 6 → bl s < 6 → s < bl s) : ∀ (d v fuel a C M : Nat) (X : Xst) (g : am_G), v + (d + 1) ≤ 3 → d < fuel → a ≤ 48 → C + 999 * (d + 1) ≤ 1500000000 → M + LUf (d + 1) < Z → HcX O op SH hd bl gg tg d X a → SVl q ρ0 O pl tg op SH hd bl gg ld C v X M g → SRs q ρ0 O op SH v (M + LUf (d + 1)) (brX O op SH hd bl gg tg false (d + 1) X) (fX1_search fuel (nI v) (nI (d + 1)) (nI a) g) g := by
  intro d
  induction d with
  | zero =>
    intro v fuel a C M X g hv hf ha hC hM hH hS
    obtain ⟨fuel, rfl⟩ : ∃ m', fuel = m' + 1 := ⟨fuel - 1, by omega⟩
    have hfu : am_fu = 1048576 := rfl
    have hLU : LUf (0 + 1) = 294 := rfl
    rw [hLU] at hM ⊢
    obtain ⟨g1, w1, w2, w3, w4, w5⟩ := q1_lookUp (C := C) (by omega) hO hpl hV hSH (by omega) hS.1 hS.2.1 hS.2.2.2.1 hS.2.2.2.2
    have f1 : FSr v g g1 := ⟨w2.1, fun a j x1 x2 x3 x4 x5 _ => w2.2 a j x1 x2 x3 (fun z => x5 ⟨z.1, z.2.1⟩)⟩
    have hS1 := hS.fs f1 w3 w4
    rw [fX1_search, bX1_search, w1, pu_bd]
    unfold fX1_canReach
    have hre := reachL (C := C) (d := 1) (by omega) (by omega) (by decide) hSH.1 hS1.2.2.1 hS1.2.2.2.2 w5 6 0 am_fu (by omega) (by omega) (fun t ht => absurd ht (by omega))
    rcases hre with hr | ⟨hr, hno⟩
    · rw [show fX1_canReach_L2 (nI v) (nI (0 + 1)) am_fu (0 : Int32) g1 = some (nI 1, g1) from hr, pu_bd, if_neg (show ¬ nI 1 = (0 : Int32) by decide)]
      have := SRs.pre f1 (srL1 (rec := fX1_search fuel) (a3 := nI a) (C := C) (by omega) (by omega) hO htg hSH.1 hld hbl O 0 am_fu g1 (by omega) (by omega) hS1 w5)
      rw [brX]
      rcases this with ⟨h1, g', h2, h3, h4, h5⟩ | h1
      · exact Or.inl ⟨h1, g', h2, h3, h4, h5.le (by omega)⟩
      · exact Or.inr h1
    · rw [show fX1_canReach_L2 (nI v) (nI (0 + 1)) am_fu (0 : Int32) g1 = some (nI 0, g1) from hr, pu_bd, if_pos (show nI 0 = (0 : Int32) from rfl)]
      exact Or.inl ⟨noReach (op := op) (SH := SH) (hd := hd) (gg := gg) (mx := fun t a => mxF op SH t a O) htg hld hbl (fun o h1 h2 t h3 a => mxF_ge h2 O h1) 1 X hno, g1, rfl, f1, w3, w4.le (by omega)⟩
  | succ d ih =>
    intro v fuel a C M X g hv hf ha hC hM hH hS
    obtain ⟨fuel, rfl⟩ : ∃ m', fuel = m' + 1 := ⟨fuel - 1, by omega⟩
    have hfu : am_fu = 1048576 := rfl
    have hLU : LUf (d + 1 + 1) = 6 + 48 * (LUf (d + 1) + 6) := rfl
    obtain ⟨g1, w1, w2, w3, w4, w5⟩ := q1_lookUp (C := C) (by omega) hO hpl hV hSH (by omega) hS.1 hS.2.1 hS.2.2.2.1 hS.2.2.2.2
    have f1 : FSr v g g1 := ⟨w2.1, fun a j x1 x2 x3 x4 x5 _ => w2.2 a j x1 x2 x3 (fun z => x5 ⟨z.1, z.2.1⟩)⟩
    have hS1 := hS.fs f1 w3 w4
    have hmul : O * (LUf (d + 1) + 6) ≤ 48 * (LUf (d + 1) + 6) := Nat.mul_le_mul hO (Nat.le_refl _)
    rw [fX1_search, bX1_search, w1, pu_bd]
    unfold fX1_canReach
    have hre := reachL (C := C) (d := d + 2) (by omega) (by omega) (by omega) hSH.1 hS1.2.2.1 hS1.2.2.2.2 w5 6 0 am_fu (by omega) (by omega) (fun t ht => absurd ht (by omega))
    rcases hre with hr | ⟨hr, hno⟩
    · rw [show fX1_canReach_L2 (nI v) (nI (d + 1 + 1)) am_fu (0 : Int32) g1 = some (nI 1, g1) from hr, pu_bd, if_neg (show ¬ nI 1 = (0 : Int32) by decide)]
      have hC2 : C + 999 * (d + 2) ≤ 1500000000 := hC
      have hC3 := (c999 hC2).2
      have hv2 : v + (d + 2) ≤ 3 := by omega
      have hM2 : M + 6 + O * (LUf (d + 1) + 6) < Z := by omega
      have hfo : O < am_fu := by omega
      have := SRs.pre f1 (srL2 (rec := fX1_search fuel) (a := a) (C := C) (d := d) hZ hv2 hC2 hO hpl hV hSH htg hld hbl ha hH (fun a' M' X' g' h1 h2 h3 h4 => ih (v + 1) fuel a' (C + 999) M' X' g' (by omega) (by omega) h1 hC3 h2 h3 h4) O 0 am_fu (M + 6) g1 (Nat.zero_add O) hfo hM2 (fun o' h => absurd h (by omega)) hS1 w5)
      rw [brX]
      rcases this with ⟨h1, g', h2, h3, h4, h5⟩ | h1
      · exact Or.inl ⟨h1, g', h2, h3, h4, h5.le (by omega)⟩
      · exact Or.inr h1
    · rw [show fX1_canReach_L2 (nI v) (nI (d + 1 + 1)) am_fu (0 : Int32) g1 = some (nI 0, g1) from hr, pu_bd, if_pos (show nI 0 = (0 : Int32) from rfl)]
      exact Or.inl ⟨noReach (op := op) (SH := SH) (hd := hd) (gg := gg) (mx := fun t a => mxF op SH t a O) htg hld hbl (fun o h1 h2 t h3 a => mxF_ge h2 O h1) (d + 2) X hno, g1, rfl, f1, w3, w4.le (by omega)⟩
end SRC

/-! ===== bring: the reference's rows of options ===== -/
section ODB
variable {q : Option pLw} {ρ0 : Row} {O pl tg nW n : Nat} {op : Nat → Bool} {SH : Nat → Nat → Nat → Nat} {hd bl : Nat → Nat} {gg : Nat → Bool}
def GdX (O : Nat) (op : Nat → Bool) (SH : Nat → Nat → Nat → Nat) (hd bl : Nat → Nat) (gg : Nat → Bool) (tg : Nat) : Nat → Option (Xst → Option (List Nat))
  | 0 => none
  | d + 1 => some (brX O op SH hd bl gg tg true (d + 1))
theorem brX_G (d : Nat) (X : Xst) : brX O op SH hd bl gg tg true (d + 1) X = fstO (tryX op SH hd bl gg tg true (GdX O op SH hd bl gg tg d) X) O 0 := by
  cases d with
  | zero => rfl
  | succ d => rfl
theorem c999c {B d : Nat} (h : B + 2997 ≤ 1500000000) (hd : d + 1 ≤ 3) : B + 999 * (d + 1) ≤ 1500000000 := Nat.le_trans (Nat.add_le_add_left (Nat.mul_le_mul_left 999 hd) B) (show B + 999 * 3 ≤ 1500000000 from h)
/-- what holds at level k -/
def RBl (q : Option pLw) (ρ0 : Row) (hd bl : Nat → Nat) (gg : Nat → Bool) (nW k B : Nat) (X : Xst) (g : am_G) : Prop := LawR (am_I g 2) q ∧ am_I g 0 20 = nI 0 ∧ am_I g 2 0 = nI nW ∧ RwB q ρ0 hd bl gg B X (rr g) ∧ ∀ j, 6 ≤ j → j < 142 → am_I g 5 (136 * (16 + k) + (j - 6)) = am_I g 2 j
theorem RBl.cg {k B : Nat} {X : Xst} {g g' : am_G} (h : RBl q ρ0 hd bl gg nW k B X g) (h2 : am_I g' 2 = am_I g 2) (h20 : am_I g' 0 20 = am_I g 0 20) (h5 : ∀ j, 6 ≤ j → j < 142 → am_I g' 5 (136 * (16 + k) + (j - 6)) = am_I g 5 (136 * (16 + k) + (j - 6))) : RBl q ρ0 hd bl gg nW k B X g' := by
  obtain ⟨a1, a2, a3, a4, a5⟩ := h
  exact ⟨by rw [h2]; exact a1, by rw [h20]; exact a2, by rw [h2]; exact a3, by rw [rr_cg h2]; exact a4, fun j x y => by rw [h5 j x y, h2]; exact a5 j x y⟩
/-- how a level ends -/
def EnB (O tg pl n k d f m : Nat) (F : Option (List Nat)) (R : Option (Int32 × am_G)) (g : am_G) : Prop :=
  (F = none ∧ ∃ f' g', f ≤ f' + Tmo O d m ∧ R = fX12_isBrought_L16 (nI tg) (nI pl) (nI n) f' (nI k + (-1 : Int32)) g' ∧ FBk k g g' ∧ (k = 0 → am_I g' 2 = am_I g 2) ∧ ∀ k', k = k' + 1 → ∀ j, 6 ≤ j → j < 142 → am_I g' 2 j = am_I g 5 (136 * (16 + k') + (j - 6))) ∨
  (∃ l g', F = some l ∧ R = some (nI 1, g') ∧ FBk k g g' ∧ chR g' k l ∧ ∀ j, 6 ≤ j → j < 142 → am_I g' 2 j = am_I g 5 (2176 + (j - 6)))
def tmS (O : Nat) : Nat → Nat
  | 0 => 0
  | d + 1 => Tmo O d O
theorem Tmo_0 (O d : Nat) : Tmo O d 0 = 1 := by
  cases d with
  | zero => rfl
  | succ d => rw [Tmo, Nat.zero_mul]
theorem Tmo_s (O d m : Nat) : Tmo O d (m + 1) = Tmo O d m + 1 + tmS O d := by
  cases d with
  | zero => rw [Tmo, Tmo, tmS]
  | succ d => rw [Tmo, Tmo, tmS, Nat.add_mul, Nat.one_mul]; omega
def BKb (tg pl n f k : Nat) (g26 : am_G) : Option (Int32 × am_G) :=
            am_bd (fX12_putBack ((16 : Int32) + nI k) g26) fun u28 g29 =>
            fX12_isBrought_L16 (nI tg) (nI pl) (nI n) f (nI k) g29
def BJb (tg pl n f k : Nat) (v16 : Int32) (g20 : am_G) : Option (Int32 × am_G) :=
          if v16 = 0 then (
            if (nI n - (1 : Int32)) ≤ nI k then (
              BKb tg pl n f k g20)
            else (
              am_let (nI k + (1 : Int32)) fun x32 =>
              am_bd (fX12_keepAll ((16 : Int32) + x32) g20) fun u33 g34 =>
              am_gd (am_in x32 3) <|
              am_let (am_si g34 29 x32.toNatClampNeg (-1 : Int32)) fun g37 =>
              fX12_isBrought_L16 (nI tg) (nI pl) (nI n) f x32 g37))
          else (
            BKb tg pl n f k g20)
theorem l16_st {k f o : Nat} {g : am_G} (hk : k < 3) (hO : O ≤ 48) (hOW : O = 3 * nW) (ho : o < O) (h0 : am_I g 2 0 = nI nW) (h29 : am_I g 29 k + (1 : Int32) = nI o) : fX12_isBrought_L16 (nI tg) (nI pl) (nI n) (f + 1) (nI k) g = am_bd (fX12_bringBy (nI tg) (nI pl) (nI o) (am_si g 29 k (nI o))) fun v16 g17 => if v16 = (1 : Int32) then (if nI k = (nI n - (1 : Int32)) then (am_bd (fX12_putBack (16 : Int32) g17) fun u39 g40 => some ((1 : Int32), g40)) else BJb tg pl n f k v16 g17) else BJb tg pl n f k v16 g17 := by
  rw [fX12_isBrought_L16, if_neg (show ¬ nI k < (0 : Int32) from fun z => absurd ((nI_ltI (b := 0) (by omega) (by decide)).mp z) (by omega)), pe_gd (show k < 3 from hk) (by decide), pe_gd (show k < 3 from hk) (by decide), pu_let, pe_clamp (show k < 2147483648 by omega), h29, pe_gd (show k < 3 from hk) (by decide), pu_gd (show am_in (0 : Int32) 5660 = true from rfl), pe_ieq, show (0 : Int32).toNatClampNeg = 0 from rfl, pe_ine (show (2 : Nat) ≠ 29 by decide), h0, show (3 : Int32) * nI nW = nI O by rw [show (3 : Int32) = nI 3 from rfl, nn_mul, hOW], if_neg (fun z => absurd ((nn_eq (by omega) (by omega)).mp z) (by omega)), pe_gd (show k < 3 from hk) (by decide)]
  rfl
theorem odoE {k d f B : Nat} {X : Xst} {g : am_G} (hk : k < 3) (hO : O ≤ 48) (hOW : O = 3 * nW) (hR : RBl q ρ0 hd bl gg nW k B X g) (h29 : am_I g 29 k + (1 : Int32) = nI O) : EnB O tg pl n k d (f + 1) 0 none (fX12_isBrought_L16 (nI tg) (nI pl) (nI n) (f + 1) (nI k) g) g := by
  have st : fX12_isBrought_L16 (nI tg) (nI pl) (nI n) (f + 1) (nI k) g = am_let (nI k + (-1 : Int32)) fun x42 => if x42 < 0 then fX12_isBrought_L16 (nI tg) (nI pl) (nI n) f x42 (am_si g 29 k (nI O)) else am_bd (fX12_putBack ((16 : Int32) + x42) (am_si g 29 k (nI O))) fun u44 g45 => fX12_isBrought_L16 (nI tg) (nI pl) (nI n) f x42 g45 := by
    rw [fX12_isBrought_L16, if_neg (show ¬ nI k < (0 : Int32) from fun z => absurd ((nI_ltI (b := 0) (by omega) (by decide)).mp z) (by omega)), pe_gd (show k < 3 from hk) (by decide), pe_gd (show k < 3 from hk) (by decide), pu_let, pe_clamp (show k < 2147483648 by omega), h29, pe_gd (show k < 3 from hk) (by decide), pu_gd (show am_in (0 : Int32) 5660 = true from rfl), pe_ieq, show (0 : Int32).toNatClampNeg = 0 from rfl, pe_ine (show (2 : Nat) ≠ 29 by decide), hR.2.2.1, show (3 : Int32) * nI nW = nI O by rw [show (3 : Int32) = nI 3 from rfl, nn_mul, hOW], if_pos rfl]
  rw [st, pu_let]
  left
  refine ⟨rfl, f, ?_⟩
  have hT := Tmo_0 O d
  have f1 : FBk k g (am_si g 29 k (nI O)) := (FBk.rf k g).s29 (Nat.le_refl _) _
  by_cases h0 : k = 0
  · subst h0
    rw [if_pos (show nI 0 + (-1 : Int32) < 0 by decide)]
    exact ⟨_, by omega, rfl, f1, fun _ => pI_si_ne _ _ _ (by decide), fun k' z => absurd z (by omega)⟩
  · obtain ⟨k, rfl⟩ : ∃ k', k = k' + 1 := ⟨k - 1, by omega⟩
    have ek : nI (k + 1) + (-1 : Int32) = nI k := by rw [← Int32.sub_eq_add_neg]; exact nI_ms k
    rw [ek, if_neg (show ¬ nI k < (0 : Int32) from fun z => absurd ((nI_ltI (b := 0) (by omega) (by decide)).mp z) (by omega)), show (16 : Int32) + nI k = nI (16 + k) from nI_add 16 k, q12_putBack (by omega), pu_bd]
    refine ⟨pbk (16 + k) (am_si g 29 (k + 1) (nI O)), by omega, rfl, f1.tr (pbk_K _), fun z => absurd z (by omega), fun k' z j h1 h2 => ?_⟩
    obtain rfl : k' = k := by omega
    unfold pbk
    rw [pI_sr_row, if_pos ⟨h1, h2⟩, pe_ine (by decide)]
/-- an option that does not do: all is put back -/
theorem backB {k B o : Nat} {X : Xst} {g gB : am_G} (hR : RBl q ρ0 hd bl gg nW k B X g) (hW : FrW (am_si g 29 k (nI o)) gB) : RBl q ρ0 hd bl gg nW k B X (pbk (16 + k) gB) ∧ FBk k g (pbk (16 + k) gB) ∧ am_I (pbk (16 + k) gB) 29 k = nI o ∧ am_I (pbk (16 + k) gB) 2 = am_I g 2 ∧ am_I (pbk (16 + k) gB) 5 = am_I g 5 := by
  have f1 : FBk k g gB := ((FBk.rf k g).s29 (Nat.le_refl _) _).tr hW.K
  have e5 : am_I gB 5 = am_I g 5 := funext fun j => by rw [hW.1 5 j (by decide) (by decide) (by omega) (by omega), pe_ine (by decide)]
  have e2 : am_I (pbk (16 + k) gB) 2 = am_I g 2 := by
    funext j
    unfold pbk
    rw [pI_sr_row]
    by_cases hj : 6 ≤ j ∧ j < 142
    · rw [if_pos hj, e5]; exact hR.2.2.2.2 j hj.1 hj.2
    · rw [if_neg hj, hW.1 2 j (by decide) (by decide) (by omega) (by unfold pkj; omega), pe_ine (by decide)]
  have e5' : am_I (pbk (16 + k) gB) 5 = am_I g 5 := by unfold pbk; rw [pI_sr_ne _ _ (by decide)]; exact e5
  refine ⟨hR.cg e2 ?_ (fun j _ _ => by rw [e5']), f1.tr (pbk_K _), ?_, e2, e5'⟩
  · unfold pbk
    rw [pI_sr_ne _ _ (by decide), hW.1 0 20 (by decide) (by decide) (by omega) (by omega), pe_ine (by decide)]
  · unfold pbk
    rw [pI_sr_ne _ _ (by decide), hW.1 29 k (by decide) (by decide) (by omega) (by omega), pe_ieq]
theorem odoC {k d B : Nat} {X : Xst} (hn : n ≤ 3) (hO : O ≤ 48) (hOW : O = 3 * nW) (hpl : pl < 4) (htg : tg < 6) (hSH : ShF q ρ0 pl SH) (hop : ∀ o, o < O → op o = !brd q ρ0 (o / 3) pl (o % 3 + 1)) (hk : k + d + 1 = n) (hB : B + 999 ≤ 1500000000) (hdesc : ∀ d', d = d' + 1 → ∀ (f : Nat) (X' : Xst) (g3 : am_G), RBl q ρ0 hd bl gg nW (k + 1) (B + 999) X' g3 → am_I g3 29 (k + 1) + (1 : Int32) = nI 0 → Tmo O d' O ≤ f → EnB O tg pl n (k + 1) d' f O (brX O op SH hd bl gg tg true d X') (fX12_isBrought_L16 (nI tg) (nI pl) (nI n) f (nI (k + 1)) g3) g3) : ∀ (m o f : Nat) (g : am_G), o + m = O → RBl q ρ0 hd bl gg nW k B X g → am_I g 29 k + (1 : Int32) = nI o → Tmo O d m ≤ f → EnB O tg pl n k d f m (fstO (tryX op SH hd bl gg tg true (GdX O op SH hd bl gg tg d) X) m o) (fX12_isBrought_L16 (nI tg) (nI pl) (nI n) f (nI k) g) g := by
  intro m
  induction m with
  | zero =>
    intro o f g ho hR h29 hf
    rw [Tmo_0] at hf
    obtain ⟨f, rfl⟩ : ∃ f', f = f' + 1 := ⟨f - 1, by omega⟩
    obtain rfl : o = O := by omega
    exact odoE (by omega) hO hOW hR h29
  | succ m ihm =>
    intro o f g ho hR h29 hf
    rw [Tmo_s] at hf
    obtain ⟨f, rfl⟩ : ∃ f', f = f' + 1 := ⟨f - 1, by omega⟩
    have hoO : o < O := by omega
    have h11 : RBl q ρ0 hd bl gg nW k B X (am_si g 29 k (nI o)) := hR.cg (pI_si_ne _ _ _ (by decide)) (pe_ine (by decide)) (fun j _ _ => pe_ine (by decide))
    rw [l16_st (by omega) hO hOW hoO hR.2.2.1 h29]
    -- the next option, from a heap in which all is as before
    have next : ∀ (f' : Nat) (g1 : am_G), f ≤ f' + tmS O d → RBl q ρ0 hd bl gg nW k B X g1 → FBk k g g1 → am_I g1 29 k = nI o → am_I g1 2 = am_I g 2 → (∀ j, j < 136 * (17 + k) → am_I g1 5 j = am_I g 5 j) → tryX op SH hd bl gg tg true (GdX O op SH hd bl gg tg d) X o = none → EnB O tg pl n k d (f + 1) (m + 1) (fstO (tryX op SH hd bl gg tg true (GdX O op SH hd bl gg tg d) X) (m + 1) o) (fX12_isBrought_L16 (nI tg) (nI pl) (nI n) f' (nI k) g1) g := by
      intro f' g1 hf' hR1 f1 h29' h2 h5 hT
      rw [fstO_n hT]
      have ih := ihm (o + 1) f' g1 (by omega) hR1 (by rw [h29']; exact nI_add o 1) (by omega)
      rcases ih with ⟨a1, f2, g2, a2, a3, a4, a5, a6⟩ | ⟨l, g2, a1, a2, a3, a4, a5⟩
      · refine Or.inl ⟨a1, f2, g2, by rw [Tmo_s]; omega, a3, f1.tr a4, fun z => (a5 z).trans h2, fun k' hk' j x y => ?_⟩
        rw [a6 k' hk' j x y, h5 _ (by omega)]
      · refine Or.inr ⟨l, g2, a1, a2, f1.tr a3, a4, fun j x y => ?_⟩
        rw [a5 j x y, h5 _ (by omega)]
    have bkN : ∀ gB, FrW (am_si g 29 k (nI o)) gB → tryX op SH hd bl gg tg true (GdX O op SH hd bl gg tg d) X o = none → EnB O tg pl n k d (f + 1) (m + 1) (fstO (tryX op SH hd bl gg tg true (GdX O op SH hd bl gg tg d) X) (m + 1) o) (BKb tg pl n f k gB) g := by
      intro gB hW hT
      obtain ⟨c1, c2, c3, c4, c5⟩ := backB hR hW
      unfold BKb
      rw [show (16 : Int32) + nI k = nI (16 + k) from nI_add 16 k, q12_putBack (by omega), pu_bd]
      exact next f (pbk (16 + k) gB) (by omega) c1 c2 c3 c4 (fun j _ => by rw [c5]) hT
    obtain ⟨gB, hW, hc⟩ := q12_bringBy (g := am_si g 29 k (nI o)) hB hO hoO hpl htg hSH hop h11.1 h11.2.1 h11.2.2.2.1
    rcases hc with ⟨hopo, X', sl, hs, hb, hRw⟩ | ⟨hno, hb⟩
    · have hTo : tryX op SH hd bl gg tg true (GdX O op SH hd bl gg tg d) X o = (match GdX O op SH hd bl gg tg d with
          | none => if sl tg = true then some [o] else none
          | some G => if true = true ∧ sl tg = true then none else (G X').map (fun l => o :: l)) := by
        unfold tryX
        rw [if_pos hopo, hs]
        rfl
      rw [hb, pu_bd]
      by_cases hz : sl tg = true
      · rw [if_pos hz, if_pos (show nI 1 = (1 : Int32) from rfl)]
        cases d with
        | zero =>
          rw [if_pos (show nI k = nI n - (1 : Int32) by rw [← hk]; exact (nI_ms k).symm), show (16 : Int32) = nI 16 from rfl, q12_putBack (by decide), pu_bd]
          right
          have f1 : FBk k g gB := ((FBk.rf k g).s29 (Nat.le_refl _) _).tr hW.K
          refine ⟨[o], pbk 16 gB, fstO_s (by rw [hTo]; exact if_pos hz), rfl, f1.tr (pbk_K _), ⟨?_, trivial⟩, fun j x y => ?_⟩
          · unfold pbk
            rw [pI_sr_ne _ _ (by decide), hW.1 29 k (by decide) (by decide) (by omega) (by omega), pe_ieq]
          · unfold pbk
            rw [pI_sr_row, if_pos ⟨x, y⟩, f1.1 5 _ (by decide) (by decide) (by omega) (by omega) (by omega) (by omega)]
        | succ d =>
          rw [if_neg (show ¬ nI k = nI n - (1 : Int32) by
            rw [← hk, show nI (k + (d + 1) + 1) - (1 : Int32) = nI (k + (d + 1)) from nI_ms _]
            exact fun z => absurd ((nn_eq (by omega) (by omega)).mp z) (by omega))]
          unfold BJb
          rw [if_neg (show ¬ nI 1 = (0 : Int32) by decide)]
          exact bkN gB hW (by rw [hTo]; exact if_pos ⟨rfl, hz⟩)
      · rw [if_neg hz, if_neg (show ¬ nI 0 = (1 : Int32) by decide)]
        unfold BJb
        rw [if_pos (show nI 0 = (0 : Int32) from rfl)]
        cases d with
        | zero =>
          rw [if_pos (show nI n - (1 : Int32) ≤ nI k by rw [← hk, show nI (k + 0 + 1) - (1 : Int32) = nI k from nI_ms k]; exact Int32.le_rfl)]
          exact bkN gB hW (by rw [hTo]; exact if_neg hz)
        | succ d =>
          rw [if_neg (show ¬ nI n - (1 : Int32) ≤ nI k by
            rw [← hk, show nI (k + (d + 1) + 1) - (1 : Int32) = nI (k + (d + 1)) from nI_ms _]
            exact fun z => absurd ((nI_leI (by omega) (by omega)).mp z) (by omega)), pu_let, show nI k + (1 : Int32) = nI (k + 1) from nI_add k 1, show (16 : Int32) + nI (k + 1) = nI (16 + (k + 1)) from nI_add 16 (k + 1), q12_keepAll (by omega), pu_bd, pe_gd (show k + 1 < 3 by omega) (by decide), pu_let, pe_clamp (show k + 1 < 2147483648 by omega)]
          generalize hG2 : am_sr gB 5 (fun j => if 136 * (16 + (k + 1)) ≤ j ∧ j < 136 * (16 + (k + 1)) + 136 then am_I gB 2 (6 + (j - 136 * (16 + (k + 1)))) else am_I gB 5 j) = g2
          have k2 : ∀ a, a ≠ 5 → am_I g2 a = am_I gB a := fun a ha => by rw [← hG2, pI_sr_ne _ _ ha]
          have f1 : FBk k g gB := ((FBk.rf k g).s29 (Nat.le_refl _) _).tr hW.K
          have f2 : FBk k g (am_si g2 29 (k + 1) (-1)) := (f1.tr ⟨fun a j _ _ _ _ x5 _ => by
            by_cases e5 : a = 5
            · subst e5; rw [← hG2, pI_sr_row, if_neg (fun z => x5 ⟨rfl, by omega, by omega⟩)]
            · rw [k2 a e5], fun a j _ _ _ => by rw [← hG2]; rfl, by rw [← hG2]; rfl⟩).s29 (by omega) _
          have e22 : am_I (am_si g2 29 (k + 1) (-1)) 2 = am_I gB 2 := by rw [pI_si_ne _ _ _ (by decide), k2 2 (by decide)]
          have hR3 : RBl q ρ0 hd bl gg nW (k + 1) (B + 999) X' (am_si g2 29 (k + 1) (-1)) := by
            refine ⟨by rw [e22]; exact h11.1.fw hW, ?_, ?_, by rw [rr_cg e22]; exact hRw, fun j x y => ?_⟩
            · rw [pe_ine (by decide), k2 0 (by decide), hW.1 0 20 (by decide) (by decide) (by omega) (by omega)]; exact h11.2.1
            · rw [e22, hW.1 2 0 (by decide) (by decide) (by omega) (by unfold pkj; omega)]; exact h11.2.2.1
            · rw [pe_ine (by decide), ← hG2, pI_sr_row, if_pos (by omega), pI_si_ne _ _ _ (by decide), pI_sr_ne _ _ (by decide), show 6 + (136 * (16 + (k + 1)) + (j - 6) - 136 * (16 + (k + 1))) = j by omega]
          have hTm : tmS O (d + 1) = Tmo O d O := rfl
          have ih := hdesc d rfl f X' (am_si g2 29 (k + 1) (-1)) hR3 (by rw [pe_ieq]; rfl) (by omega)
          have e5g : ∀ j, j < 136 * (17 + k) → am_I (am_si g2 29 (k + 1) (-1)) 5 j = am_I g 5 j := fun j hj => f2.1 5 j (by decide) (by decide) (by omega) (by omega) (by omega) (by omega)
          have h29k : am_I (am_si g2 29 (k + 1) (-1)) 29 k = nI o := by rw [pe_ik (by omega), k2 29 (by decide), hW.1 29 k (by decide) (by decide) (by omega) (by omega), pe_ieq]
          have hTo2 : tryX op SH hd bl gg tg true (GdX O op SH hd bl gg tg (d + 1)) X o = (brX O op SH hd bl gg tg true (d + 1) X').map (fun l => o :: l) := by rw [hTo]; exact if_neg (fun z => hz z.2)
          rcases ih with ⟨a1, f3, g3, a2, a3, a4, a5, a6⟩ | ⟨l, g3, a1, a2, a3, a4, a5⟩
          · rw [a3, show nI (k + 1) + (-1 : Int32) = nI k by rw [← Int32.sub_eq_add_neg]; exact nI_ms k]
            have e2' : am_I g3 2 = am_I g 2 := by
              funext j
              by_cases hj : 6 ≤ j ∧ j < 142
              · rw [a6 k rfl j hj.1 hj.2, e5g _ (by omega)]; exact hR.2.2.2.2 j hj.1 hj.2
              · rw [a4.1 2 j (by decide) (by decide) (by omega) (by omega) (by omega) (by omega), e22, hW.1 2 j (by decide) (by decide) (by omega) (by unfold pkj; omega), pe_ine (by decide)]
            have e5' : ∀ j, j < 136 * (17 + k) → am_I g3 5 j = am_I g 5 j := fun j hj => by rw [a4.1 5 j (by decide) (by decide) (by omega) (by omega) (by omega) (by omega)]; exact e5g j hj
            have f3' : FBk k g g3 := f2.tr a4.mo
            exact next f3 g3 (by omega) (hR.cg e2' (f3'.1 0 20 (by decide) (by decide) (by omega) (by omega) (by omega) (by omega)) (fun j x y => e5' _ (by omega))) f3' (by rw [a4.1 29 k (by decide) (by decide) (by omega) (by omega) (by omega) (by omega)]; exact h29k) e2' e5' (by rw [hTo2, a1]; rfl)
          · right
            refine ⟨o :: l, g3, fstO_s (by rw [hTo2, a1]; rfl), a2, f2.tr a3.mo, ⟨by rw [a3.1 29 k (by decide) (by decide) (by omega) (by omega) (by omega) (by omega)]; exact h29k, a4⟩, fun j x y => ?_⟩
            rw [a5 j x y, e5g _ (by omega)]
    · rw [hb, pu_bd, if_neg (show ¬ (-1 : Int32) = 1 by decide)]
      unfold BJb
      rw [if_neg (show ¬ (-1 : Int32) = 0 by decide)]
      refine bkN gB hW ?_
      unfold tryX
      by_cases z : op o = true
      · rw [if_pos z]
        rcases hno with y | y
        · rw [z] at y; cases y
        · rw [y]
      · rw [if_neg z]
theorem odoB (hn : n ≤ 3) (hO : O ≤ 48) (hOW : O = 3 * nW) (hpl : pl < 4) (htg : tg < 6) (hSH : ShF q ρ0 pl SH) (hop : ∀ o, o < O → op o = !brd q ρ0 (o / 3) pl (o % 3 + 1)) : ∀ (d k f B : Nat) (X : Xst) (g : am_G), k + d + 1 = n → B + 999 * (d + 1) ≤ 1500000000 → RBl q ρ0 hd bl gg nW k B X g → am_I g 29 k + (1 : Int32) = nI 0 → Tmo O d O ≤ f → EnB O tg pl n k d f O (brX O op SH hd bl gg tg true (d + 1) X) (fX12_isBrought_L16 (nI tg) (nI pl) (nI n) f (nI k) g) g := by
  intro d
  induction d with
  | zero =>
    intro k f B X g hk hB hR h29 hf
    rw [brX_G]
    exact odoC (k := k) (d := 0) (B := B) hn hO hOW hpl htg hSH hop hk (by omega) (fun d' z => absurd z (by omega)) O 0 f g (by omega) hR h29 hf
  | succ d ih =>
    intro k f B X g hk hB hR h29 hf
    rw [brX_G]
    obtain ⟨hB1, hB2⟩ := c999 hB
    refine odoC (k := k) (d := d + 1) (B := B) hn hO hOW hpl htg hSH hop hk hB1 (fun d' z f' X' g3 h1 h2 h3 => ?_) O 0 f g (by omega) hR h29 hf
    obtain rfl : d' = d := by omega
    exact ih (k + 1) f' (B + 999) X' g3 (by omega) hB2 h1 h2 h3
theorem Tmo_48 {O : Nat} (hO : O ≤ 48) : ∀ (d m : Nat), m ≤ 48 → Tmo O d m + 1 ≤ 50 ^ (d + 1)
  | 0, m, h => by rw [Tmo]; show m + 1 + 1 ≤ 50; omega
  | d + 1, m, h => by
    have ih := Tmo_48 hO d O hO
    rw [Tmo, Nat.pow_succ]
    have h1 : m * (1 + Tmo O d O) ≤ 48 * 50 ^ (d + 1) := Nat.mul_le_mul h (by omega)
    have h2 : 0 < 50 ^ (d + 1) := Nat.pow_pos (by decide)
    omega
/-- whether it can be brought down by n words -/
theorem q12_isBrought {B : Nat} {X : Xst} {g : am_G} (hn0 : 0 < n) (hn : n ≤ 3) (hO : O ≤ 48) (hOW : O = 3 * nW) (hpl : pl < 4) (htg : tg < 6) (hB : B + 2997 ≤ 1500000000) (hSH : ShF q ρ0 pl SH) (hop : ∀ o, o < O → op o = !brd q ρ0 (o / 3) pl (o % 3 + 1)) (hq : LawR (am_I g 2) q) (h20 : am_I g 0 20 = nI 0) (h0 : am_I g 2 0 = nI nW) (hR : RwB q ρ0 hd bl gg B X (rr g)) : (brX O op SH hd bl gg tg true n X = none ∧ ∃ g', fX12_isBrought (nI tg) (nI pl) (nI n) g = some (nI 0, g') ∧ FrT g g' ∧ am_I g' 2 = am_I g 2) ∨ (∃ l g', brX O op SH hd bl gg tg true n X = some l ∧ fX12_isBrought (nI tg) (nI pl) (nI n) g = some (nI 1, g') ∧ FrT g g' ∧ chR g' 0 l) := by
  obtain ⟨d, rfl⟩ : ∃ d, n = d + 1 := ⟨n - 1, by omega⟩
  have hfu : am_fu = 1048576 := rfl
  have hT := Tmo_48 hO d O hO
  have h50 : 50 ^ (d + 1) ≤ 50 ^ 3 := Nat.pow_le_pow_right (by decide) hn
  have e50 : (50 : Nat) ^ 3 = 125000 := rfl
  unfold fX12_isBrought
  rw [show (16 : Int32) = nI 16 from rfl, q12_keepAll (by decide), pu_bd, pu_gd (show am_in (0 : Int32) 3 = true from rfl), pu_let, show (0 : Int32).toNatClampNeg = 0 from rfl]
  generalize hG : am_si (am_sr g 5 (fun j => if 136 * 16 ≤ j ∧ j < 136 * 16 + 136 then am_I g 2 (6 + (j - 136 * 16)) else am_I g 5 j)) 29 0 (-1) = g1
  have e2 : am_I g1 2 = am_I g 2 := by rw [← hG, pI_si_ne _ _ _ (by decide), pI_sr_ne _ _ (by decide)]
  have k1 : ∀ a j, ¬ (a = 5 ∧ 2176 ≤ j) → a ≠ 29 → am_I g1 a j = am_I g a j := fun a j x y => by
    rw [← hG, pI_si_ne _ _ _ y]
    by_cases e5 : a = 5
    · subst e5; rw [pI_sr_row, if_neg (fun z => x ⟨rfl, by omega⟩)]
    · rw [pI_sr_ne _ _ e5]
  have h5 : ∀ j, 6 ≤ j → j < 142 → am_I g1 5 (136 * (16 + 0) + (j - 6)) = am_I g1 2 j := fun j x y => by
    rw [e2, ← hG, pI_si_ne _ _ _ (by decide), pI_sr_row, if_pos (by omega), show 6 + (136 * (16 + 0) + (j - 6) - 136 * 16) = j by omega]
  have hT1 : FrT g g1 := ⟨fun a j hs => k1 a j (fun z => hs (by unfold scR; omega)) (fun z => hs (by unfold scR; omega)), fun a _ _ _ _ => by rw [← hG]; rfl, by rw [← hG]; rfl⟩
  have toT : ∀ g', FBk 0 g1 g' → am_I g' 2 = am_I g1 2 → FrT g1 g' := fun g' f h2 => ⟨fun a j hs => by
    by_cases e : a = 2
    · subst e; rw [h2]
    · exact f.1 a j (fun z => hs (by unfold scR; omega)) (fun z => hs (by unfold scR; omega)) (fun z => hs (by unfold scR sc0; omega)) (fun z => e z.1) (fun z => hs (by unfold scR; omega)) (fun z => hs (by unfold scR; omega)), fun a x y z w => funext fun j => f.2.1 a j w y (by omega), f.2.2⟩
  have h := odoB (n := d + 1) hn hO hOW hpl htg hSH hop d 0 am_fu B X g1 (by omega) (c999c hB hn) ⟨by rw [e2]; exact hq, by rw [k1 0 20 (by omega) (by decide)]; exact h20, by rw [e2]; exact h0, by rw [rr_cg e2]; exact hR, h5⟩ (by rw [← hG, pe_ieq]; rfl) (by omega)
  rcases h with ⟨a1, f', g', a2, a3, a4, a5, -⟩ | ⟨l, g', a1, a2, a3, a4, a5⟩
  · left
    obtain ⟨f, rfl⟩ : ∃ f, f' = f + 1 := ⟨f' - 1, by omega⟩
    refine ⟨a1, g', ?_, hT1.tr (toT g' a4 (a5 rfl)), (a5 rfl).trans e2⟩
    refine Eq.trans a3 ?_
    rw [fX12_isBrought_L16, if_pos (show nI 0 + (-1 : Int32) < 0 by decide)]
    rfl
  · right
    have h2 : am_I g' 2 = am_I g1 2 := by
      funext j
      by_cases hj : 6 ≤ j ∧ j < 142
      · rw [a5 j hj.1 hj.2]; exact h5 j hj.1 hj.2
      · exact a3.1 2 j (by decide) (by decide) (by omega) (by omega) (by omega) (by omega)
    exact ⟨l, g', a1, a2, hT1.tr (toT g' a3 h2), a4⟩
end ODB

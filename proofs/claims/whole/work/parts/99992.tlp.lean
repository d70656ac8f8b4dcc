/-! ===== all tellings, both sides ===== -/
def RBk (x30 x53 : Int32) (g67 : am_G) : Option (Int32 × am_G) :=
        am_bd (fX12_putBack (20 : Int32) g67) fun u71 g72 =>
        fX12_told_L197 (fun  (g82 : am_G) =>
          fX12_told_L228 x30 x53 am_fu (0 : Int32) g82) x30 x53 am_fu (0 : Int32) g72
theorem l51_st {k : am_G → Option (Int32 × am_G)} {p n : Nat} {a2 x2 x7 x10 : Int32} {g : am_G} : fX11_tellAll_L51 k p a2 x2 x7 (n + 1) x10 g = am_bd (fX6_timesOf 33 x7 g) fun v13 g14 => if v13 ≤ x10 then k g14 else am_bd (fX0_knowTalks p x2 g14) fun _ g18 => CTst (fun g24 => am_let (x10 + (1 : Int32)) fun x26 => fX11_tellAll_L51 k p a2 x2 x7 n x26 g24) (TJ28 p a2 x7 (fun g24 => am_let (x10 + (1 : Int32)) fun x26 => fX11_tellAll_L51 k p a2 x2 x7 n x26 g24)) x7 g18 := by
  rw [fX11_tellAll_L51]
  rfl
theorem l161_st {k : am_G → Option (Int32 × am_G)} {x30 x53 x61 : Int32} {n : Nat} {g : am_G} : fX12_told_L161 k x30 x53 (n + 1) x61 g = am_gd (am_in (((10 : Int32) * x53) + (9 : Int32)) 120) (if (am_I g 33 (((10 : Int32) * x53) + (9 : Int32)).toNatClampNeg) ≤ x61 then k g else am_bd (fX12_run ((10 : Int32) * x53) g) fun v66 g67 => if 0 ≤ v66 then (am_let (x61 + (1 : Int32)) fun x70 => fX12_told_L161 k x30 x53 n x70 g67) else RBk x30 x53 g67) := by
  rw [fX12_told_L161]
  rfl
theorem tin {p n u i : Nat} {a3 b0 x30 : Int32} {g0 : am_G} {q : Option pLw} {c : Nat → pTk} {X : Cd} {Q : Nat → am_G → am_G → Prop} {kc kr : am_G → Option (Int32 × am_G)} (hp : okP p) (hA : Act p a3 q Q) (hi : i < n) : ∀ (d x fc fr j : Nat) (gc gr : am_G), x + d = (c i).2.2.1 → d < fc → d < fr → j + d ≤ 240 → BI p b0 g0 q n c u X j gc gr → Q j gc gr →
    (∃ gc' gr', fX11_tellAll_L51 kc p a3 b0 (nI i) fc (nI x) gc = kc gc' ∧ fX12_told_L161 kr x30 (nI i) fr (nI x) gr = kr gr' ∧ BI p b0 g0 q n c u X (j + d) gc' gr' ∧ Q (j + d) gc' gr') ∨
    (∃ gc' gr', fX11_tellAll_L51 kc p a3 b0 (nI i) fc (nI x) gc = some (nI i, gc') ∧ fX12_told_L161 kr x30 (nI i) fr (nI x) gr = RBk x30 (nI i) gr' ∧ FrU g0 gr' ∧ ∃ j' gr'', Q j' gc' gr'') := by
  intro d
  induction d with
  | zero =>
    intro x fc fr j gc gr hx hfc hfr hj hB hQ
    obtain ⟨fc, rfl⟩ : ∃ m, fc = m + 1 := ⟨fc - 1, by omega⟩
    obtain ⟨fr, rfl⟩ : ∃ m, fr = m + 1 := ⟨fr - 1, by omega⟩
    have hT := hB.2.1
    have hn12 : n ≤ 12 := hT.2.2.2.1
    obtain ⟨t1, t2, t3, t4⟩ := (hT.2.2.2.2.1 i hi).2.2.2.2.1
    have e10 : (10 : Int32) * nI i = nI (10 * i) := nn_mul 10 i
    have e9 : nI (10 * i) + (9 : Int32) = nI (10 * i + 9) := nI_add _ 9
    left
    refine ⟨gc, gr, ?_, ?_, hB, hQ⟩
    · rw [l51_st, (q6_row hT.1 (show i < 12 by omega)).2.2.1, pu_bd, t3, if_pos ((nI_leI (by omega) (by omega)).mpr (by omega))]
    · rw [l161_st, e10, e9, pe_gd (show 10 * i + 9 < 120 by omega) (by decide), pe_clamp (show 10 * i + 9 < 2147483648 by omega), t4, if_pos ((nI_leI (by omega) (by omega)).mpr (by omega))]
  | succ d ih =>
    intro x fc fr j gc gr hx hfc hfr hj hB hQ
    obtain ⟨fc, rfl⟩ : ∃ m, fc = m + 1 := ⟨fc - 1, by omega⟩
    obtain ⟨fr, rfl⟩ : ∃ m, fr = m + 1 := ⟨fr - 1, by omega⟩
    have hT := hB.2.1
    have hn12 : n ≤ 12 := hT.2.2.2.1
    obtain ⟨t1, t2, t3, t4⟩ := (hT.2.2.2.2.1 i hi).2.2.2.2.1
    have e10 : (10 : Int32) * nI i = nI (10 * i) := nn_mul 10 i
    have e9 : nI (10 * i) + (9 : Int32) = nI (10 * i + 9) := nI_add _ 9
    have a1 : nI x + (1 : Int32) = nI (x + 1) := nI_add x 1
    rw [l51_st, (q6_row hT.1 (show i < 12 by omega)).2.2.1, pu_bd, t3, if_neg (fun z => absurd ((nI_leI (by omega) (by omega)).mp z) (by omega)), l161_st, e10, e9, pe_gd (show 10 * i + 9 < 120 by omega) (by decide), pe_clamp (show 10 * i + 9 < 2147483648 by omega), t4, if_neg (fun z => absurd ((nI_leI (by omega) (by omega)).mp z) (by omega)), a1]
    rcases tstep (J25 := fun g24 => am_let (nI (x + 1)) fun x26 => fX11_tellAll_L51 kc p a3 b0 (nI i) fc x26 g24) hp hA hB hQ (by omega) hi with ⟨gc', gr', y1, y2, y3, y4⟩ | ⟨gc', gr', y1, y2, y3, gr'', y4⟩
    · rw [y1, y2, pu_bd, if_pos (show (0 : Int32) ≤ nI 0 by decide), pu_let, pu_let]
      have z := ih (x + 1) fc fr (j + 1) gc' gr' (by omega) (by omega) (by omega) (by omega) y3 y4
      rw [show j + 1 + d = j + (d + 1) by omega] at z
      exact z
    · right
      refine ⟨gc', gr', y1, ?_, y3, _, _, y4⟩
      rw [y2, pu_bd, if_neg (show ¬ (0 : Int32) ≤ -3 by decide)]
theorem tout {p n u : Nat} {a3 b0 x30 : Int32} {g0 : am_G} {q : Option pLw} {c : Nat → pTk} {X : Cd} {Q : Nat → am_G → am_G → Prop} {kr : Int32 → am_G → Option (Int32 × am_G)} (hp : okP p) (hA : Act p a3 q Q) : ∀ (d i fc fr j : Nat) (gc gr : am_G), i + d = n → d < fc → d < fr → j + 20 * d ≤ 240 → BI p b0 g0 q n c u X j gc gr → Q j gc gr →
    (∃ j' gc' gr', j' ≤ 240 ∧ fX11_tellAll_L39 p a3 b0 fc (nI i) gc = some (-1, gc') ∧ fX12_told_L151 kr x30 fr (nI i) gr = (am_bd (fX12_tell (am_I gr' 0 56) gr') fun v58 g59 => some (v58, g59)) ∧ BI p b0 g0 q n c u X j' gc' gr' ∧ Q j' gc' gr') ∨
    (∃ ii gc' gr', ii < 12 ∧ fX11_tellAll_L39 p a3 b0 fc (nI i) gc = some (nI ii, gc') ∧ fX12_told_L151 kr x30 fr (nI i) gr = RBk x30 (nI ii) gr' ∧ FrU g0 gr' ∧ ∃ j' gr'', Q j' gc' gr'') := by
  intro d
  induction d with
  | zero =>
    intro i fc fr j gc gr hx hfc hfr hj hB hQ
    obtain ⟨fc, rfl⟩ : ∃ m, fc = m + 1 := ⟨fc - 1, by omega⟩
    obtain ⟨fr, rfl⟩ : ∃ m, fr = m + 1 := ⟨fr - 1, by omega⟩
    have hT := hB.2.1
    have hn12 : n ≤ 12 := hT.2.2.2.1
    left
    refine ⟨j, gc, gr, by omega, ?_, ?_, hB, hQ⟩
    · rw [fX11_tellAll_L39, hT.2.2.1, if_pos ((nI_leI (by omega) (by omega)).mpr (by omega))]
    · rw [fX12_told_L151, hT.2.1, if_pos ((nI_leI (by omega) (by omega)).mpr (by omega))]
  | succ d ih =>
    intro i fc fr j gc gr hx hfc hfr hj hB hQ
    obtain ⟨fc, rfl⟩ : ∃ m, fc = m + 1 := ⟨fc - 1, by omega⟩
    obtain ⟨fr, rfl⟩ : ∃ m, fr = m + 1 := ⟨fr - 1, by omega⟩
    have hT := hB.2.1
    have hn12 : n ≤ 12 := hT.2.2.2.1
    have hi : i < n := by omega
    obtain ⟨t1, t2, t3, t4⟩ := (hT.2.2.2.2.1 i hi).2.2.2.2.1
    have hfu : am_fu = 1048576 := rfl
    have a1 : nI i + (1 : Int32) = nI (i + 1) := nI_add i 1
    rw [fX11_tellAll_L39, hT.2.2.1, if_neg (fun z => absurd ((nI_leI (by omega) (by omega)).mp z) (by omega)), fX12_told_L151, hT.2.1, if_neg (fun z => absurd ((nI_leI (by omega) (by omega)).mp z) (by omega))]
    have z := tin (kc := fun g43 => am_let (nI i + (1 : Int32)) fun x44 => fX11_tellAll_L39 p a3 b0 fc x44 g43) (kr := fun g95 => am_let (nI i + (1 : Int32)) fun x96 => fX12_told_L151 kr x30 fr x96 g95) (x30 := x30) hp hA hi (c i).2.2.1 0 am_fu am_fu j gc gr (by omega) (by omega) (by omega) (by omega) hB hQ
    rcases z with ⟨gc', gr', y1, y2, y3, y4⟩ | ⟨gc', gr', y1, y2, y3, y4⟩
    · have w := ih (i + 1) fc fr (j + (c i).2.2.1) gc' gr' (by omega) (by omega) (by omega) (by omega) y3 y4
      rw [← a1] at w
      rw [show fX11_tellAll_L51 (fun g43 => am_let (nI i + (1 : Int32)) fun x44 => fX11_tellAll_L39 p a3 b0 fc x44 g43) p a3 b0 (nI i) am_fu (0 : Int32) gc = fX11_tellAll_L39 p a3 b0 fc (nI i + (1 : Int32)) gc' from y1, show fX12_told_L161 (fun g95 => am_let (nI i + (1 : Int32)) fun x96 => fX12_told_L151 kr x30 fr x96 g95) x30 (nI i) am_fu (0 : Int32) gr = fX12_told_L151 kr x30 fr (nI i + (1 : Int32)) gr' from y2]
      exact w
    · right
      exact ⟨i, gc', gr', by omega, y1, y2, y3, y4⟩

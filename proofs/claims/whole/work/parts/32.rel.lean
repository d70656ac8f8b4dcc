/-! ===== the relation: what else stands, what a quiet call leaves alone ===== -/
/-- ranges of the row's places -/
def okLo (j : Nat) : Int := if j = 5 then -1 else if 10 ≤ j ∧ j < 70 then (if (j - 10) % 10 = 1 then 1 else if (j - 10) % 10 = 2 then -1 else 0) else 0
def okHi (t j : Nat) : Int :=
  if j = 0 then 16 else if j = 1 then 5 else if j = 2 then 6 else if j = 3 then 10 else if j = 4 then 6 else if j = 5 then 5 else if j = 6 then 999 else if j = 7 then 9
  else if j < 10 then 2147483647
  else if j < 70 then (if (j - 10) % 10 = 0 then 9999 else if (j - 10) % 10 = 1 then 9999 else if (j - 10) % 10 = 2 then 5 else if (j - 10) % 10 = 3 then 1 else if (j - 10) % 10 < 8 then 9 else 239760 * t)
  else if j < 142 then 239760 * t
  else if j < 206 then (if (j - 142) % 4 = 2 then 7 else if (j - 142) % 4 = 3 then 99 else 9)
  else if j < 211 then 7
  else if j < 229 then (if (j - 211) % 3 = 0 then 15 else 3)
  else (if (j - 229) % 3 = 0 then 5 else if (j - 229) % 3 = 1 then 9999 else 1)
def okAt (t j : Nat) (x : Int32) : Prop := (j = 8 ∨ j = 9 ∨ (10 ≤ j ∧ j < 70 ∧ (j - 10) % 10 = 9 ∧ False) ∨ (okLo j ≤ x.toInt ∧ x.toInt ≤ okHi t j)) ∧ (10 ≤ j ∧ j < 70 ∧ (j - 10) % 10 = 2 → x = -1 ∨ ((j - 10) / 10 : Nat) < x.toInt)
/-- what the reference's heap always holds behind t calls -/
def Inv (t : Nat) (g : am_G) : Prop := (∀ j, j < 259 → okAt t j (am_I g 2 j)) ∧ (am_I g 2 5 = -1 ∨ (am_I g 2 5).toInt < (am_I g 2 4).toInt) ∧ (0 ≤ (am_I g 0 13).toInt ∧ (am_I g 0 13).toInt ≤ 400) ∧ (0 ≤ (am_I g 0 8).toInt ∧ (am_I g 0 8).toInt ≤ 16)
theorem okHi_le {t t' : Nat} (h : t ≤ t') (j : Nat) : okHi t j ≤ okHi t' j := by
  unfold okHi
  repeat' split
  all_goals omega
theorem okAt.le {t t' j : Nat} {x : Int32} (h : t ≤ t') (ho : okAt t j x) : okAt t' j x := by
  refine ⟨?_, ho.2⟩
  rcases ho.1 with z | z | z | z
  · exact Or.inl z
  · exact Or.inr (Or.inl z)
  · exact Or.inr (Or.inr (Or.inl z))
  · exact Or.inr (Or.inr (Or.inr ⟨z.1, Int.le_trans z.2 (okHi_le h j)⟩))
/-- one place of the row written -/
theorem Inv.row {t : Nat} {g g1 : am_G} (h : Inv t g) {J : Nat} {x : Int32} (e : am_I g1 2 = am_up (am_I g 2) J x) (hx : okAt (t + 1) J x) (h5 : am_I g1 2 5 = -1 ∨ (am_I g1 2 5).toInt < (am_I g1 2 4).toInt) (h13 : 0 ≤ (am_I g1 0 13).toInt ∧ (am_I g1 0 13).toInt ≤ 400) (h8 : 0 ≤ (am_I g1 0 8).toInt ∧ (am_I g1 0 8).toInt ≤ 16) : Inv (t + 1) g1 := by
  refine ⟨fun j hj => ?_, h5, h13, h8⟩
  rw [e]
  by_cases hh : j = J
  · subst hh
    rw [am_up_eq]
    exact hx
  · rw [am_up_ne hh]
    exact (h.1 j hj).le (Nat.le_succ t)
theorem Inv.same {t : Nat} {g g1 : am_G} (h : Inv t g) (e : am_I g1 2 = am_I g 2) (h13 : 0 ≤ (am_I g1 0 13).toInt ∧ (am_I g1 0 13).toInt ≤ 400) (h8 : 0 ≤ (am_I g1 0 8).toInt ∧ (am_I g1 0 8).toInt ≤ 16) : Inv (t + 1) g1 := by
  refine ⟨fun j hj => ?_, by rw [e]; exact h.2.1, h13, h8⟩
  rw [e]
  exact (h.1 j hj).le (Nat.le_succ t)
/-- what the parts beyond the answering cells rest on stays: tape, winter, undo's packs, images, laws -/
def Qc (g g1 : am_G) : Prop := am_I g1 26 2 = am_I g 26 2 ∧ am_I g1 28 = am_I g 28 ∧ am_I g1 30 = am_I g 30 ∧ am_I g1 72 = am_I g 72 ∧ am_I g1 76 = am_I g 76 ∧ (∀ a, 79 ≤ a → am_I g1 a = am_I g a) ∧ am_P g1 = am_P g ∧ am_S g1 = am_S g ∧ am_n g1 = am_n g ∧ am_s g1 = am_s g
def Qr (g g1 : am_G) : Prop := am_I g1 3 = am_I g 3 ∧ am_I g1 4 = am_I g 4 ∧ am_I g1 5 = am_I g 5 ∧ am_I g1 6 = am_I g 6 ∧ am_I g1 9 = am_I g 9 ∧ am_I g1 34 = am_I g 34 ∧ (∀ j, 260 ≤ j ∨ j = 4 → am_I g1 2 j = am_I g 2 j) ∧ am_L g1 15 = am_L g 15 ∧ am_L g1 16 = am_L g 16 ∧ am_L g1 17 = am_L g 17 ∧ am_n g1 = am_n g ∧ am_s g1 = am_s g
/-- the places that undo brings back though no saying changes them: mood, hold, below, gorge, far -/
def npk (j : Nat) : Prop := j = 7 ∨ (10 ≤ j ∧ j < 70 ∧ 1 ≤ (j - 10) % 10 ∧ (j - 10) % 10 < 8)
def Qu (g g1 : am_G) : Prop := am_I g1 0 8 = 0 ∨ (am_I g1 0 8 = am_I g 0 8 ∧ ∀ j, npk j → am_I g1 2 j = am_I g 2 j)
/-- a quiet call -/
def Sm (t : Nat) (gc gr gc1 gr1 : am_G) : Prop := Rc gc1 gr1 ∧ Inv (t + 1) gr1 ∧ Qc gc gc1 ∧ Qr gr gr1 ∧ Qu gr gr1
theorem Qc.refl (g : am_G) : Qc g g := ⟨rfl, rfl, rfl, rfl, rfl, fun _ _ => rfl, rfl, rfl, rfl, rfl⟩
theorem Qr.refl (g : am_G) : Qr g g := ⟨rfl, rfl, rfl, rfl, rfl, rfl, fun _ _ => rfl, rfl, rfl, rfl, rfl, rfl⟩
theorem Qc.si {g g1 : am_G} (h : Qc g g1) {a k : Nat} {x : Int32} (h1 : a < 79) (h2 : ¬ (a = 26 ∧ k = 2)) (h3 : a ≠ 28 ∧ a ≠ 30 ∧ a ≠ 72 ∧ a ≠ 76) : Qc g (am_si g1 a k x) := by
  obtain ⟨q1, q2, q3, q4, q5, q6, q7, q8, q9, q10⟩ := h
  refine ⟨?_, ?_, ?_, ?_, ?_, fun b hb => ?_, q7, q8, q9, q10⟩
  · rw [pI_si, if_neg (fun z => h2 ⟨z.1.symm, z.2.symm⟩)]; exact q1
  · rw [pI_si_ne _ _ _ (Ne.symm h3.1)]; exact q2
  · rw [pI_si_ne _ _ _ (Ne.symm h3.2.1)]; exact q3
  · rw [pI_si_ne _ _ _ (Ne.symm h3.2.2.1)]; exact q4
  · rw [pI_si_ne _ _ _ (Ne.symm h3.2.2.2)]; exact q5
  · rw [pI_si_ne _ _ _ (by omega)]; exact q6 b hb
theorem Qr.si {g g1 : am_G} (h : Qr g g1) {a k : Nat} {x : Int32} (h1 : a ≠ 3 ∧ a ≠ 4 ∧ a ≠ 5 ∧ a ≠ 6 ∧ a ≠ 9 ∧ a ≠ 34) (h2 : a = 2 → k < 260 ∧ k ≠ 4) : Qr g (am_si g1 a k x) := by
  obtain ⟨q1, q2, q3, q4, q5, q6, q7, q8⟩ := h
  refine ⟨?_, ?_, ?_, ?_, ?_, ?_, fun j hj => ?_, q8⟩
  · rw [pI_si_ne _ _ _ (Ne.symm h1.1)]; exact q1
  · rw [pI_si_ne _ _ _ (Ne.symm h1.2.1)]; exact q2
  · rw [pI_si_ne _ _ _ (Ne.symm h1.2.2.1)]; exact q3
  · rw [pI_si_ne _ _ _ (Ne.symm h1.2.2.2.1)]; exact q4
  · rw [pI_si_ne _ _ _ (Ne.symm h1.2.2.2.2.1)]; exact q5
  · rw [pI_si_ne _ _ _ (Ne.symm h1.2.2.2.2.2)]; exact q6
  · rw [pI_si, if_neg]
    · exact q7 j hj
    · rintro ⟨e1, e2⟩
      have := h2 e1.symm
      omega
/-- thrown is set to 0 -/
def thr (g : am_G) : am_G := am_si g 0 0 0
theorem Rc.thr {gc gr : am_G} (h : Rc gc gr) : Rc gc (thr gr) := h.r (by decide +kernel) _
/-- a call that is refused by -k -/
theorem Sm.ref {t : Nat} {gc gr : am_G} (h : Rc gc gr) (hi : Inv t gr) {k : Nat} (hk : k < 7) : Sm t gc gr (refC k gc) (refR k (thr gr)) := by
  refine ⟨h.thr.ref hk, hi.same ?_ ?_ ?_, ?_, ?_, Or.inr ⟨?_, fun j _ => ?_⟩⟩
  · rfl
  · show 0 ≤ (am_I (am_si (am_si (am_si gr 0 0 0) 0 1 _) 1 k _) 0 13).toInt ∧ _
    exact hi.2.2.1
  · exact hi.2.2.2
  · exact ((Qc.refl gc).si (by decide) (by decide) (by decide)).si (by decide) (by omega) (by decide)
  · exact (((Qr.refl gr).si (by decide) (by decide)).si (by decide) (by decide)).si (by decide) (by omega)
  · rfl
  · rfl

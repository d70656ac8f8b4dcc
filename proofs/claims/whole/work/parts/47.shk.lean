/-! ===== what a law makes of a row: shakes, bars, falls, thaws ===== -/
def eS (ρ : Nat → Int32) (w p l s : Nat) : Nat → Int32 := fun k => if k = 13 then nI l else if k = 14 then nI w else if k = 15 then ρ (142 + 4 * w + 0) else if k = 16 then ρ (142 + 4 * w + 1) else if k = 17 then nI p else if k = 18 then ρ (10 + 10 * s + (4 + p)) else if k = 19 then nI s else if k = 20 then ρ 7 else if k = 21 then ρ (10 + 10 * s + 0) else ρ 6
def eB (ρ : Nat → Int32) (w p l : Nat) : Nat → Int32 := fun k => if k = 13 then nI l else if k = 14 then nI w else if k = 15 then ρ (142 + 4 * w + 0) else if k = 16 then ρ (142 + 4 * w + 1) else if k = 17 then nI p else if k = 18 then -1 else if k = 19 then -1 else if k = 20 then ρ 7 else if k = 21 then -1 else ρ 6
def eW (ρ : Nat → Int32) (s : Nat) : Nat → Int32 := fun k => if k = 19 then nI s else if k = 20 then ρ 7 else if k = 21 then ρ (10 + 10 * s + 0) else if k = 22 then ρ 6 else -1
def shk (q : Option pLw) (ρ : Nat → Int32) (w p l s : Nat) : Int32 := match tlv q 0 (eS ρ w p l s) with
  | none => am_max (nI 0) (ρ (142 + 4 * w + 0) * nI l - ρ (10 + 10 * s + (4 + p)))
  | some v => am_max (nI 0) (am_min (nI 999) v)
def brd (q : Option pLw) (ρ : Nat → Int32) (w p l : Nat) : Bool := (tlv q 3 (eB ρ w p l)).isSome
def fll (q : Option pLw) (ρ : Nat → Int32) (s : Nat) : Int32 := match tlv q 1 (eW ρ s) with
  | none => nI 10
  | some v => am_max (nI 0) (am_min (nI 99) v)
def thw (q : Option pLw) (ρ : Nat → Int32) (s : Nat) : Int32 := match tlv q 2 (eW ρ s) with
  | none => nI 0
  | some v => am_max (nI 0) (am_min (nI 99) v)
def stp (j : Nat) : Prop := (10 ≤ j ∧ j < 70 ∧ 8 ≤ (j - 10) % 10) ∨ (70 ≤ j ∧ j < 142)
/-- ranges of the row's places, but for strain and its parts -/
def okV (ρ : Nat → Int32) : Prop := ∀ j, j < 259 → ¬ stp j → okAt 0 j (ρ j)
theorem okV.cg {ρ ρ' : Nat → Int32} (h : okV ρ) (e : ∀ j, j < 259 → ¬ stp j → ρ' j = ρ j) : okV ρ' := fun j hj hs => by rw [e j hj hs]; exact h j hj hs
theorem okV.at {ρ : Nat → Int32} (h : okV ρ) {j n : Nat} (hj : j < 259) (hs : ¬ stp j) (h9 : ¬ (j = 8 ∨ j = 9 ∨ (10 ≤ j ∧ j < 70 ∧ (j - 10) % 10 = 9))) (hlo : okLo j = 0) (hhi : okHi 0 j = n) : ∃ m, m ≤ n ∧ ρ j = nI m := okAt_nat (h j hj hs) h9 hlo hhi
theorem lo_w : ∀ w, w < 16 → okLo (142 + 4 * w + 0) = 0 ∧ okHi 0 (142 + 4 * w + 0) = 9 ∧ okLo (142 + 4 * w + 1) = 0 ∧ okHi 0 (142 + 4 * w + 1) = 9 := by decide +kernel
theorem lo_s : ∀ s, s < 6 → okLo (10 + 10 * s + 0) = 0 ∧ okHi 0 (10 + 10 * s + 0) = 9999 := by decide +kernel
theorem lo_f : ∀ s, s < 6 → ∀ p, p < 4 → okLo (10 + 10 * s + (4 + p)) = 0 ∧ okHi 0 (10 + 10 * s + (4 + p)) = 9 := by decide +kernel
theorem okV.long {ρ : Nat → Int32} (h : okV ρ) {w : Nat} (hw : w < 16) : ∃ m, m ≤ 9 ∧ ρ (142 + 4 * w + 0) = nI m := h.at (by omega) (by unfold stp; omega) (by omega) (lo_w w hw).1 (lo_w w hw).2.1
theorem okV.r {ρ : Nat → Int32} (h : okV ρ) {w : Nat} (hw : w < 16) : ∃ m, m ≤ 9 ∧ ρ (142 + 4 * w + 1) = nI m := h.at (by omega) (by unfold stp; omega) (by omega) (lo_w w hw).2.2.1 (lo_w w hw).2.2.2
theorem okV.snow {ρ : Nat → Int32} (h : okV ρ) {s : Nat} (hs : s < 6) : ∃ m, m ≤ 9999 ∧ ρ (10 + 10 * s + 0) = nI m := h.at (by omega) (by unfold stp; omega) (by omega) (lo_s s hs).1 (lo_s s hs).2
theorem okV.far {ρ : Nat → Int32} (h : okV ρ) {s p : Nat} (hs : s < 6) (hp : p < 4) : ∃ m, m ≤ 9 ∧ ρ (10 + 10 * s + (4 + p)) = nI m := h.at (by omega) (by unfold stp; omega) (by omega) (lo_f s hs p hp).1 (lo_f s hs p hp).2
theorem okV.day {ρ : Nat → Int32} (h : okV ρ) : ∃ m, m ≤ 999 ∧ ρ 6 = nI m := h.at (by omega) (by unfold stp; omega) (by omega) rfl rfl
theorem okV.mood {ρ : Nat → Int32} (h : okV ρ) : ∃ m, m ≤ 9 ∧ ρ 7 = nI m := h.at (by omega) (by unfold stp; omega) (by omega) rfl rfl
theorem pBd_n {m : Nat} {x : Int32} (h : m ≤ 1000000000) (e : x = nI m) : pBd x := by
  rw [e]
  unfold pBd
  rw [nn_toInt (by omega)]
  omega
theorem pBd_m1 : pBd (-1) := by unfold pBd; decide
theorem eS_bd {ρ : Nat → Int32} (h : okV ρ) {w p l s : Nat} (hw : w < 16) (hp : p < 4) (hl : l ≤ 3) (hs : s < 6) : Kbd (eS ρ w p l s) := by
  obtain ⟨m1, b1, e1⟩ := h.long hw
  obtain ⟨m2, b2, e2⟩ := h.r hw
  obtain ⟨m3, b3, e3⟩ := h.snow hs
  obtain ⟨m4, b4, e4⟩ := h.far hs hp
  obtain ⟨m5, b5, e5⟩ := h.day
  obtain ⟨m6, b6, e6⟩ := h.mood
  intro k h1 h2
  rcases (show k = 13 ∨ k = 14 ∨ k = 15 ∨ k = 16 ∨ k = 17 ∨ k = 18 ∨ k = 19 ∨ k = 20 ∨ k = 21 ∨ k = 22 by omega) with rfl | rfl | rfl | rfl | rfl | rfl | rfl | rfl | rfl | rfl
  · exact pBd_n (m := l) (by omega) rfl
  · exact pBd_n (m := w) (by omega) rfl
  · exact pBd_n (m := m1) (by omega) e1
  · exact pBd_n (m := m2) (by omega) e2
  · exact pBd_n (m := p) (by omega) rfl
  · exact pBd_n (m := m4) (by omega) e4
  · exact pBd_n (m := s) (by omega) rfl
  · exact pBd_n (m := m6) (by omega) e6
  · exact pBd_n (m := m3) (by omega) e3
  · exact pBd_n (m := m5) (by omega) e5
theorem eB_bd {ρ : Nat → Int32} (h : okV ρ) {w p l : Nat} (hw : w < 16) (hp : p < 4) (hl : l ≤ 3) : Kbd (eB ρ w p l) := by
  obtain ⟨m1, b1, e1⟩ := h.long hw
  obtain ⟨m2, b2, e2⟩ := h.r hw
  obtain ⟨m5, b5, e5⟩ := h.day
  obtain ⟨m6, b6, e6⟩ := h.mood
  intro k h1 h2
  rcases (show k = 13 ∨ k = 14 ∨ k = 15 ∨ k = 16 ∨ k = 17 ∨ k = 18 ∨ k = 19 ∨ k = 20 ∨ k = 21 ∨ k = 22 by omega) with rfl | rfl | rfl | rfl | rfl | rfl | rfl | rfl | rfl | rfl
  · exact pBd_n (m := l) (by omega) rfl
  · exact pBd_n (m := w) (by omega) rfl
  · exact pBd_n (m := m1) (by omega) e1
  · exact pBd_n (m := m2) (by omega) e2
  · exact pBd_n (m := p) (by omega) rfl
  · exact pBd_m1
  · exact pBd_m1
  · exact pBd_n (m := m6) (by omega) e6
  · exact pBd_m1
  · exact pBd_n (m := m5) (by omega) e5
theorem eW_bd {ρ : Nat → Int32} (h : okV ρ) {s : Nat} (hs : s < 6) : Kbd (eW ρ s) := by
  obtain ⟨m3, b3, e3⟩ := h.snow hs
  obtain ⟨m5, b5, e5⟩ := h.day
  obtain ⟨m6, b6, e6⟩ := h.mood
  intro k h1 h2
  rcases (show k = 13 ∨ k = 14 ∨ k = 15 ∨ k = 16 ∨ k = 17 ∨ k = 18 ∨ k = 19 ∨ k = 20 ∨ k = 21 ∨ k = 22 by omega) with rfl | rfl | rfl | rfl | rfl | rfl | rfl | rfl | rfl | rfl
  · exact pBd_m1
  · exact pBd_m1
  · exact pBd_m1
  · exact pBd_m1
  · exact pBd_m1
  · exact pBd_m1
  · exact pBd_n (m := s) (by omega) rfl
  · exact pBd_n (m := m6) (by omega) e6
  · exact pBd_n (m := m3) (by omega) e3
  · exact pBd_n (m := m5) (by omega) e5
def okLw (q : Option pLw) : Prop := ∀ L, q = some L → ∀ i, i < L.1 → okC (L.2 i)
theorem tlv_ag {q : Option pLw} {kd : Nat} {K K' : Nat → Int32} (h : okLw q) (hK : Kag K K') : tlv q kd K = tlv q kd K' := by
  cases q with
  | none => rfl
  | some L => exact lwN_ag (h L rfl) hK
theorem tlv_bd {q : Option pLw} {kd : Nat} {K : Nat → Int32} (h : okLw q) (hK : Kbd K) {v : Int32} (hv : tlv q kd K = some v) : pBd v := by
  cases q with
  | none => exact absurd hv (by simp [tlv])
  | some L => exact lwN_bd (h L rfl) hK v hv
theorem Kag.bd {K K' : Nat → Int32} (h : Kag K K') (hb : Kbd K') : Kbd K := fun k h1 h2 => by rw [h k h1 h2]; exact hb k h1 h2
/-! the class -/
def LawC (g : am_G) (q : Option pLw) : Prop := (am_I g 1 18 = -1 ∧ q = none) ∨ ∃ f L p, f < 6 ∧ am_I g 1 18 = nI f ∧ am_P g 24 f = some p ∧ TxtC g p L ∧ q = some L
theorem LawC.ok {g : am_G} {q : Option pLw} (h : LawC g q) : okLw q := by
  rcases h with ⟨-, rfl⟩ | ⟨f, L, p, -, -, -, hT, rfl⟩
  · intro L e; exact absurd e (by simp)
  · intro L' e i hi
    rw [← Option.some.inj e] at hi ⊢
    obtain ⟨h1, h2, h3, h4, pr, ps, ns, h5, h6, h7, h8, h9, h10, h11⟩ := hT
    exact (h11 i hi).1
/-- only what the asker writes differs -/
def FcA (g g' : am_G) : Prop := g'.2 = g.2 ∧ ∀ a, a ≠ 37 → a ≠ 38 → am_I g' a = am_I g a
theorem FcA.rf (g : am_G) : FcA g g := ⟨rfl, fun _ _ _ => rfl⟩
theorem FcA.tr {g h i : am_G} (h1 : FcA g h) (h2 : FcA h i) : FcA g i := ⟨h2.1.trans h1.1, fun a x y => (h2.2 a x y).trans (h1.2 a x y)⟩
theorem FcA.si {g h : am_G} (h1 : FcA g h) (k : Nat) (x : Int32) : FcA g (am_si h 37 k x) := ⟨h1.1, fun a y z => by rw [pI_si_ne _ _ _ y]; exact h1.2 a y z⟩
theorem FcA.sr {g h : am_G} (h1 : FcA g h) (f : Nat → Int32) : FcA g (am_sr h 38 f) := ⟨h1.1, fun a y z => by rw [pI_sr_ne _ _ z]; exact h1.2 a y z⟩
theorem FcA.P {g h : am_G} (h1 : FcA g h) : am_P h = am_P g := congrArg (fun x => x.2.1) h1.1
theorem FcA.Sh {g h : am_G} (h1 : FcA g h) : am_S h = am_S g := congrArg (fun x => x.2.2.1) h1.1
theorem TxtC.fc {g h : am_G} {p : Nat} {L : pLw} (hT : TxtC g p L) (h1 : FcA g h) : TxtC h p L := by
  obtain ⟨t1, t2, t3, t4, pr, ps, ns, t5, t6, t7, t8, t9, t10, t11⟩ := hT
  refine ⟨by rw [h1.Sh]; exact t1, t2, by rw [h1.2 p (by omega) (by omega)]; exact t3, t4, pr, ps, ns, by rw [h1.P]; exact t5, by rw [h1.P]; exact t6, t7, t8, by rw [h1.Sh]; exact t9, by rw [h1.Sh]; exact t10, ?_⟩
  rw [h1.2 pr (by omega) (by omega), h1.2 ps (by omega) (by omega)]
  exact t11
theorem LawC.fc {g h : am_G} {q : Option pLw} (hq : LawC g q) (h1 : FcA g h) : LawC h q := by
  rcases hq with ⟨a, rfl⟩ | ⟨f, L, p, a, b, c, d, rfl⟩
  · exact Or.inl ⟨by rw [h1.2 1 (by decide) (by decide)]; exact a, rfl⟩
  · exact Or.inr ⟨f, L, p, a, by rw [h1.2 1 (by decide) (by decide)]; exact b, by rw [h1.P]; exact c, d.fc h1, rfl⟩
theorem m1_le : (nI 0 ≤ -nI 1) = False := eq_false (by decide)
theorem q0_lastTold {g : am_G} {q : Option pLw} {kd : Nat} (hkd : kd < 4) (hq : LawC g q) (hK : Kbd (am_I g 37)) : ∃ f, fX0_lastTold (nI (kd + 1)) g = some ((tlv q kd (am_I g 37)).getD pBR, am_sr g 38 f) := by
  unfold fX0_lastTold fX9_lawInForce
  rcases hq with ⟨h5, rfl⟩ | ⟨f, L, p, hf, h5, hP, hT, rfl⟩
  · refine ⟨am_I g 38, ?_⟩
    rw [sr_self]
    simp (disch := first | omega | assumption | decide) only [↓pv_let, ↓pv_jn, ↓reduceIte, pv_bd, ↓pv_ocs, ↓pv_ocn, pv_gdt, pe_gd, pe_clamp, pt_eq, pf_eq, pt_le, pf_le, pt_lt, pf_lt, nI_add, nn_mul, pe_sub, pb_0, pb_1, pb_z, pe_ieq, pe_ine, pe_ik, pP_si, pS_si, pn_si, ps_si, pL_si, decide_true, ofNat_nI, pe_srI, pe_srN, pe_srS, pe_srP, not_true_eq_false, not_false_eq_true, true_and, and_true, and_self, false_and, and_false, nI_m1, nI_ms, Nat.add_sub_cancel, pl_0, pl_1, pl_2, pl_3, pl_4, pl_5, pl_6, pl_7, pl_8, pl_9, pl_10, pl_11, pl_12, pl_13, pl_14, pl_15, pl_16, pl_17, pl_18, pl_19, pl_20, pl_21, pl_22, pl_23, pl_24, pl_25, pl_26, pl_27, pl_28, pl_29, pl_30, pl_31, pl_32, pl_34, pl_36, pl_37, pl_40, pl_41, pl_42, pl_43, pl_45, pl_47, pl_48, pl_50, pl_57, pl_59, pl_60, pl_61, pl_62, pl_64, pl_70, pl_91, pl_93, pl_97, pl_98, pl_99, pl_100, pl_106, pl_122, pl_128, pl_136, pl_142, pl_165, pl_168, pl_170, pl_171, pl_173, pl_175, pl_187, pl_188, pl_189, pl_190, pl_206, pl_211, pl_219, pl_229, pl_255, pl_260, pl_400, pl_500, pl_512, pl_900, pl_999, pl_1000, pl_1001, pl_1005, pl_1020, pl_1023, pl_1024, pl_1103, pl_2000, pl_2040, pl_2176, pl_5660, pl_9999, pl_12345, pl_1000000, pl_1000003, pl_100000000, pl_1000000000, q11_within, h5, m1_le, pBR_d]
    rfl
  · obtain ⟨f1, e⟩ := lastL hkd hT hK L.1 am_fu (am_I g 38) (Nat.le_refl _) (by have : am_fu = 1048576 := rfl; have := hT.2.1; omega)
    refine ⟨f1, ?_⟩
    show _ = some ((lwN L.2 kd (am_I g 37) L.1).getD pBR, _)
    rw [← e, sr_self]
    have hS := hT.1
    have h2 := hT.2.2.1
    simp (disch := first | omega | assumption | decide) only [↓pv_let, ↓pv_jn, ↓reduceIte, pv_bd, ↓pv_ocs, ↓pv_ocn, pv_gdt, pe_gd, pe_clamp, pt_eq, pf_eq, pt_le, pf_le, pt_lt, pf_lt, nI_add, nn_mul, pe_sub, pb_0, pb_1, pb_z, pe_ieq, pe_ine, pe_ik, pP_si, pS_si, pn_si, ps_si, pL_si, decide_true, ofNat_nI, pe_srI, pe_srN, pe_srS, pe_srP, not_true_eq_false, not_false_eq_true, true_and, and_true, and_self, false_and, and_false, nI_m1, nI_ms, Nat.add_sub_cancel, pl_0, pl_1, pl_2, pl_3, pl_4, pl_5, pl_6, pl_7, pl_8, pl_9, pl_10, pl_11, pl_12, pl_13, pl_14, pl_15, pl_16, pl_17, pl_18, pl_19, pl_20, pl_21, pl_22, pl_23, pl_24, pl_25, pl_26, pl_27, pl_28, pl_29, pl_30, pl_31, pl_32, pl_34, pl_36, pl_37, pl_40, pl_41, pl_42, pl_43, pl_45, pl_47, pl_48, pl_50, pl_57, pl_59, pl_60, pl_61, pl_62, pl_64, pl_70, pl_91, pl_93, pl_97, pl_98, pl_99, pl_100, pl_106, pl_122, pl_128, pl_136, pl_142, pl_165, pl_168, pl_170, pl_171, pl_173, pl_175, pl_187, pl_188, pl_189, pl_190, pl_206, pl_211, pl_219, pl_229, pl_255, pl_260, pl_400, pl_500, pl_512, pl_900, pl_999, pl_1000, pl_1001, pl_1005, pl_1020, pl_1023, pl_1024, pl_1103, pl_2000, pl_2040, pl_2176, pl_5660, pl_9999, pl_12345, pl_1000000, pl_1000003, pl_100000000, pl_1000000000, q11_within, h5, hP, hS, h2]
    rw [Int32.sub_eq_add_neg]
/-- a word, a place and a loudness are told to the asker -/
def SaidC (g : am_G) (ρ : Nat → Int32) (w p l : Nat) : Prop := am_I g 37 13 = nI l ∧ am_I g 37 14 = nI w ∧ am_I g 37 15 = ρ (142 + 4 * w + 0) ∧ am_I g 37 16 = ρ (142 + 4 * w + 1) ∧ am_I g 37 17 = nI p ∧ am_I g 37 20 = ρ 7 ∧ am_I g 37 22 = ρ 6
def WthC (g : am_G) (ρ : Nat → Int32) (s : Nat) : Prop := Kag (am_I g 37) (eW ρ s)
theorem SaidC.kag {g : am_G} {ρ : Nat → Int32} {w p l s : Nat} (h : SaidC g ρ w p l) (h1 : am_I g 37 18 = ρ (10 + 10 * s + (4 + p))) (h2 : am_I g 37 19 = nI s) (h3 : am_I g 37 21 = ρ (10 + 10 * s + 0)) : Kag (am_I g 37) (eS ρ w p l s) := by
  obtain ⟨a, b, c, d, e, f, i⟩ := h
  intro k k1 k2
  rcases (show k = 13 ∨ k = 14 ∨ k = 15 ∨ k = 16 ∨ k = 17 ∨ k = 18 ∨ k = 19 ∨ k = 20 ∨ k = 21 ∨ k = 22 by omega) with rfl | rfl | rfl | rfl | rfl | rfl | rfl | rfl | rfl | rfl
  · exact a
  · exact b
  · exact c
  · exact d
  · exact e
  · exact h1
  · exact h2
  · exact f
  · exact h3
  · exact i
theorem SaidC.kagB {g : am_G} {ρ : Nat → Int32} {w p l : Nat} (h : SaidC g ρ w p l) (h1 : am_I g 37 18 = -1) (h2 : am_I g 37 19 = -1) (h3 : am_I g 37 21 = -1) : Kag (am_I g 37) (eB ρ w p l) := by
  obtain ⟨a, b, c, d, e, f, i⟩ := h
  intro k k1 k2
  rcases (show k = 13 ∨ k = 14 ∨ k = 15 ∨ k = 16 ∨ k = 17 ∨ k = 18 ∨ k = 19 ∨ k = 20 ∨ k = 21 ∨ k = 22 by omega) with rfl | rfl | rfl | rfl | rfl | rfl | rfl | rfl | rfl | rfl
  · exact a
  · exact b
  · exact c
  · exact d
  · exact e
  · exact h1
  · exact h2
  · exact f
  · exact h3
  · exact i
theorem q11_nearest (a b c : Int32) (g : am_G) : fX11_nearest a b c g = some (am_max b (am_min c a), g) := Eq.trans rfl (Eq.trans rfl rfl)
theorem q0_shakes {g : am_G} {q : Option pLw} {ρ : Nat → Int32} {w p l s : Nat} (hq : LawC g q) (hV : okV ρ) (hw : w < 16) (hp : p < 4) (hl : l ≤ 3) (hs : s < 6) (hS : SaidC g ρ w p l) (hf : am_I g 11 (s * 4 + p) = ρ (10 + 10 * s + (4 + p))) : ∃ g', fX0_shakes (nI s) (ρ (10 + 10 * s + 0)) g = some (shk q ρ w p l s, g') ∧ FcA g g' ∧ SaidC g' ρ w p l := by
  have hS0 := hS
  obtain ⟨a, b, c, d, e, f, i⟩ := hS
  have hfr : FcA g (am_si (am_si (am_si g 37 18 (ρ (10 + 10 * s + (4 + p)))) 37 19 (nI s)) 37 21 (ρ (10 + 10 * s + 0))) := (((FcA.rf g).si _ _).si _ _).si _ _
  have hS8 : SaidC (am_si (am_si (am_si g 37 18 (ρ (10 + 10 * s + (4 + p)))) 37 19 (nI s)) 37 21 (ρ (10 + 10 * s + 0))) ρ w p l := by
    unfold SaidC
    simp (disch := decide) only [pe_ik, a, b, c, d, e, f, i, and_self]
  have hag : Kag _ (eS ρ w p l s) := hS8.kag (s := s) (by simp (disch := decide) only [pe_ik, pe_ieq]) (by simp (disch := decide) only [pe_ik, pe_ieq]) (by simp (disch := decide) only [pe_ik, pe_ieq])
  obtain ⟨fl, hlt⟩ := q0_lastTold (kd := 0) (by decide) (hq.fc hfr) (hag.bd (eS_bd hV hw hp hl hs))
  rw [tlv_ag hq.ok hag] at hlt
  have hlt : fX0_lastTold (nI 1) _ = _ := hlt
  refine ⟨_, ?_, hfr.sr fl, ?_⟩
  · unfold fX0_shakes shk
    cases hv : tlv q 0 (eS ρ w p l s) with
    | none =>
      rw [hv] at hlt
      simp (disch := first | omega | assumption | decide) only [↓pv_let, ↓pv_jn, ↓reduceIte, pv_bd, ↓pv_ocs, ↓pv_ocn, pv_gdt, pe_gd, pe_clamp, pt_eq, pf_eq, pt_le, pf_le, pt_lt, pf_lt, nI_add, nn_mul, pe_sub, pb_0, pb_1, pb_z, pe_ieq, pe_ine, pe_ik, pP_si, pS_si, pn_si, ps_si, pL_si, decide_true, ofNat_nI, pe_srI, pe_srN, pe_srS, pe_srP, not_true_eq_false, not_false_eq_true, true_and, and_true, and_self, false_and, and_false, nI_m1, nI_ms, Nat.add_sub_cancel, pl_0, pl_1, pl_2, pl_3, pl_4, pl_5, pl_6, pl_7, pl_8, pl_9, pl_10, pl_11, pl_12, pl_13, pl_14, pl_15, pl_16, pl_17, pl_18, pl_19, pl_20, pl_21, pl_22, pl_23, pl_24, pl_25, pl_26, pl_27, pl_28, pl_29, pl_30, pl_31, pl_32, pl_34, pl_36, pl_37, pl_40, pl_41, pl_42, pl_43, pl_45, pl_47, pl_48, pl_50, pl_57, pl_59, pl_60, pl_61, pl_62, pl_64, pl_70, pl_91, pl_93, pl_97, pl_98, pl_99, pl_100, pl_106, pl_122, pl_128, pl_136, pl_142, pl_165, pl_168, pl_170, pl_171, pl_173, pl_175, pl_187, pl_188, pl_189, pl_190, pl_206, pl_211, pl_219, pl_229, pl_255, pl_260, pl_400, pl_500, pl_512, pl_900, pl_999, pl_1000, pl_1001, pl_1005, pl_1020, pl_1023, pl_1024, pl_1103, pl_2000, pl_2040, pl_2176, pl_5660, pl_9999, pl_12345, pl_1000000, pl_1000003, pl_100000000, pl_1000000000, e, hf, hlt, Option.getD_none, pBR_d, a, c]
    | some v =>
      rw [hv] at hlt
      have hne : (v = pBR) = False := eq_false (pBd_ne (tlv_bd hq.ok (eS_bd hV hw hp hl hs) hv))
      simp (disch := first | omega | assumption | decide) only [↓pv_let, ↓pv_jn, ↓reduceIte, pv_bd, ↓pv_ocs, ↓pv_ocn, pv_gdt, pe_gd, pe_clamp, pt_eq, pf_eq, pt_le, pf_le, pt_lt, pf_lt, nI_add, nn_mul, pe_sub, pb_0, pb_1, pb_z, pe_ieq, pe_ine, pe_ik, pP_si, pS_si, pn_si, ps_si, pL_si, decide_true, ofNat_nI, pe_srI, pe_srN, pe_srS, pe_srP, not_true_eq_false, not_false_eq_true, true_and, and_true, and_self, false_and, and_false, nI_m1, nI_ms, Nat.add_sub_cancel, pl_0, pl_1, pl_2, pl_3, pl_4, pl_5, pl_6, pl_7, pl_8, pl_9, pl_10, pl_11, pl_12, pl_13, pl_14, pl_15, pl_16, pl_17, pl_18, pl_19, pl_20, pl_21, pl_22, pl_23, pl_24, pl_25, pl_26, pl_27, pl_28, pl_29, pl_30, pl_31, pl_32, pl_34, pl_36, pl_37, pl_40, pl_41, pl_42, pl_43, pl_45, pl_47, pl_48, pl_50, pl_57, pl_59, pl_60, pl_61, pl_62, pl_64, pl_70, pl_91, pl_93, pl_97, pl_98, pl_99, pl_100, pl_106, pl_122, pl_128, pl_136, pl_142, pl_165, pl_168, pl_170, pl_171, pl_173, pl_175, pl_187, pl_188, pl_189, pl_190, pl_206, pl_211, pl_219, pl_229, pl_255, pl_260, pl_400, pl_500, pl_512, pl_900, pl_999, pl_1000, pl_1001, pl_1005, pl_1020, pl_1023, pl_1024, pl_1103, pl_2000, pl_2040, pl_2176, pl_5660, pl_9999, pl_12345, pl_1000000, pl_1000003, pl_100000000, pl_1000000000, e, hf, hlt, Option.getD_some, pBR_d, hne, q11_nearest]
  · unfold SaidC at hS8 ⊢
    rw [pI_sr_ne _ _ (by decide)]
    exact hS8
theorem q0_bars {g : am_G} {q : Option pLw} {ρ : Nat → Int32} {w p l : Nat} (hq : LawC g q) (hV : okV ρ) (hw : w < 16) (hp : p < 4) (hl : l ≤ 3) (hS : SaidC g ρ w p l) : ∃ g', fX0_bars g = some (pb (brd q ρ w p l = true), g') ∧ FcA g g' ∧ SaidC g' ρ w p l := by
  have hS0 := hS
  obtain ⟨a, b, c, d, e, f, i⟩ := hS
  have hfr : FcA g (am_si (am_si (am_si g 37 18 (-nI 1)) 37 19 (-nI 1)) 37 21 (-nI 1)) := (((FcA.rf g).si _ _).si _ _).si _ _
  have hS8 : SaidC (am_si (am_si (am_si g 37 18 (-nI 1)) 37 19 (-nI 1)) 37 21 (-nI 1)) ρ w p l := by
    unfold SaidC
    simp (disch := decide) only [pe_ik, a, b, c, d, e, f, i, and_self]
  have hag : Kag _ (eB ρ w p l) := hS8.kagB (by simp (disch := decide) only [pe_ik, pe_ieq]; rfl) (by simp (disch := decide) only [pe_ik, pe_ieq]; rfl) (by simp (disch := decide) only [pe_ik, pe_ieq]; rfl)
  obtain ⟨fl, hlt⟩ := q0_lastTold (kd := 3) (by decide) (hq.fc hfr) (hag.bd (eB_bd hV hw hp hl))
  rw [tlv_ag hq.ok hag] at hlt
  have hlt : fX0_lastTold (nI 4) _ = _ := hlt
  refine ⟨_, ?_, hfr.sr fl, ?_⟩
  · unfold fX0_bars brd
    cases hv : tlv q 3 (eB ρ w p l) with
    | none =>
      rw [hv] at hlt
      simp (disch := first | omega | assumption | decide) only [↓pv_let, ↓pv_jn, ↓reduceIte, pv_bd, ↓pv_ocs, ↓pv_ocn, pv_gdt, pe_gd, pe_clamp, pt_eq, pf_eq, pt_le, pf_le, pt_lt, pf_lt, nI_add, nn_mul, pe_sub, pb_0, pb_1, pb_z, pe_ieq, pe_ine, pe_ik, pP_si, pS_si, pn_si, ps_si, pL_si, decide_true, ofNat_nI, pe_srI, pe_srN, pe_srS, pe_srP, not_true_eq_false, not_false_eq_true, true_and, and_true, and_self, false_and, and_false, nI_m1, nI_ms, Nat.add_sub_cancel, pl_0, pl_1, pl_2, pl_3, pl_4, pl_5, pl_6, pl_7, pl_8, pl_9, pl_10, pl_11, pl_12, pl_13, pl_14, pl_15, pl_16, pl_17, pl_18, pl_19, pl_20, pl_21, pl_22, pl_23, pl_24, pl_25, pl_26, pl_27, pl_28, pl_29, pl_30, pl_31, pl_32, pl_34, pl_36, pl_37, pl_40, pl_41, pl_42, pl_43, pl_45, pl_47, pl_48, pl_50, pl_57, pl_59, pl_60, pl_61, pl_62, pl_64, pl_70, pl_91, pl_93, pl_97, pl_98, pl_99, pl_100, pl_106, pl_122, pl_128, pl_136, pl_142, pl_165, pl_168, pl_170, pl_171, pl_173, pl_175, pl_187, pl_188, pl_189, pl_190, pl_206, pl_211, pl_219, pl_229, pl_255, pl_260, pl_400, pl_500, pl_512, pl_900, pl_999, pl_1000, pl_1001, pl_1005, pl_1020, pl_1023, pl_1024, pl_1103, pl_2000, pl_2040, pl_2176, pl_5660, pl_9999, pl_12345, pl_1000000, pl_1000003, pl_100000000, pl_1000000000, hlt, Option.getD_none, pBR_d]
      rfl
    | some v =>
      rw [hv] at hlt
      have hne : (v = pBR) = False := eq_false (pBd_ne (tlv_bd hq.ok (eB_bd hV hw hp hl) hv))
      simp (disch := first | omega | assumption | decide) only [↓pv_let, ↓pv_jn, ↓reduceIte, pv_bd, ↓pv_ocs, ↓pv_ocn, pv_gdt, pe_gd, pe_clamp, pt_eq, pf_eq, pt_le, pf_le, pt_lt, pf_lt, nI_add, nn_mul, pe_sub, pb_0, pb_1, pb_z, pe_ieq, pe_ine, pe_ik, pP_si, pS_si, pn_si, ps_si, pL_si, decide_true, ofNat_nI, pe_srI, pe_srN, pe_srS, pe_srP, not_true_eq_false, not_false_eq_true, true_and, and_true, and_self, false_and, and_false, nI_m1, nI_ms, Nat.add_sub_cancel, pl_0, pl_1, pl_2, pl_3, pl_4, pl_5, pl_6, pl_7, pl_8, pl_9, pl_10, pl_11, pl_12, pl_13, pl_14, pl_15, pl_16, pl_17, pl_18, pl_19, pl_20, pl_21, pl_22, pl_23, pl_24, pl_25, pl_26, pl_27, pl_28, pl_29, pl_30, pl_31, pl_32, pl_34, pl_36, pl_37, pl_40, pl_41, pl_42, pl_43, pl_45, pl_47, pl_48, pl_50, pl_57, pl_59, pl_60, pl_61, pl_62, pl_64, pl_70, pl_91, pl_93, pl_97, pl_98, pl_99, pl_100, pl_106, pl_122, pl_128, pl_136, pl_142, pl_165, pl_168, pl_170, pl_171, pl_173, pl_175, pl_187, pl_188, pl_189, pl_190, pl_206, pl_211, pl_219, pl_229, pl_255, pl_260, pl_400, pl_500, pl_512, pl_900, pl_999, pl_1000, pl_1001, pl_1005, pl_1020, pl_1023, pl_1024, pl_1103, pl_2000, pl_2040, pl_2176, pl_5660, pl_9999, pl_12345, pl_1000000, pl_1000003, pl_100000000, pl_1000000000, hlt, Option.getD_some, pBR_d, hne]
      rfl
  · unfold SaidC at hS8 ⊢
    rw [pI_sr_ne _ _ (by decide)]
    exact hS8
theorem q0_falls {g : am_G} {q : Option pLw} {ρ : Nat → Int32} {s : Nat} (hq : LawC g q) (hV : okV ρ) (hs : s < 6) (hS : WthC g ρ s) : ∃ g', fX0_falls g = some (fll q ρ s, g') ∧ FcA g g' ∧ WthC g' ρ s := by
  obtain ⟨fl, hlt⟩ := q0_lastTold (kd := 1) (by decide) hq (Kag.bd hS (eW_bd hV hs))
  rw [tlv_ag hq.ok hS] at hlt
  have hlt : fX0_lastTold (nI 2) _ = _ := hlt
  refine ⟨_, ?_, (FcA.rf g).sr fl, ?_⟩
  · unfold fX0_falls fll
    cases hv : tlv q 1 (eW ρ s) with
    | none =>
      rw [hv] at hlt
      simp (disch := first | omega | assumption | decide) only [↓pv_let, ↓pv_jn, ↓reduceIte, pv_bd, ↓pv_ocs, ↓pv_ocn, pv_gdt, pe_gd, pe_clamp, pt_eq, pf_eq, pt_le, pf_le, pt_lt, pf_lt, nI_add, nn_mul, pe_sub, pb_0, pb_1, pb_z, pe_ieq, pe_ine, pe_ik, pP_si, pS_si, pn_si, ps_si, pL_si, decide_true, ofNat_nI, pe_srI, pe_srN, pe_srS, pe_srP, not_true_eq_false, not_false_eq_true, true_and, and_true, and_self, false_and, and_false, nI_m1, nI_ms, Nat.add_sub_cancel, pl_0, pl_1, pl_2, pl_3, pl_4, pl_5, pl_6, pl_7, pl_8, pl_9, pl_10, pl_11, pl_12, pl_13, pl_14, pl_15, pl_16, pl_17, pl_18, pl_19, pl_20, pl_21, pl_22, pl_23, pl_24, pl_25, pl_26, pl_27, pl_28, pl_29, pl_30, pl_31, pl_32, pl_34, pl_36, pl_37, pl_40, pl_41, pl_42, pl_43, pl_45, pl_47, pl_48, pl_50, pl_57, pl_59, pl_60, pl_61, pl_62, pl_64, pl_70, pl_91, pl_93, pl_97, pl_98, pl_99, pl_100, pl_106, pl_122, pl_128, pl_136, pl_142, pl_165, pl_168, pl_170, pl_171, pl_173, pl_175, pl_187, pl_188, pl_189, pl_190, pl_206, pl_211, pl_219, pl_229, pl_255, pl_260, pl_400, pl_500, pl_512, pl_900, pl_999, pl_1000, pl_1001, pl_1005, pl_1020, pl_1023, pl_1024, pl_1103, pl_2000, pl_2040, pl_2176, pl_5660, pl_9999, pl_12345, pl_1000000, pl_1000003, pl_100000000, pl_1000000000, hlt, Option.getD_none, pBR_d]
    | some v =>
      rw [hv] at hlt
      have hne : (v = pBR) = False := eq_false (pBd_ne (tlv_bd hq.ok (eW_bd hV hs) hv))
      simp (disch := first | omega | assumption | decide) only [↓pv_let, ↓pv_jn, ↓reduceIte, pv_bd, ↓pv_ocs, ↓pv_ocn, pv_gdt, pe_gd, pe_clamp, pt_eq, pf_eq, pt_le, pf_le, pt_lt, pf_lt, nI_add, nn_mul, pe_sub, pb_0, pb_1, pb_z, pe_ieq, pe_ine, pe_ik, pP_si, pS_si, pn_si, ps_si, pL_si, decide_true, ofNat_nI, pe_srI, pe_srN, pe_srS, pe_srP, not_true_eq_false, not_false_eq_true, true_and, and_true, and_self, false_and, and_false, nI_m1, nI_ms, Nat.add_sub_cancel, pl_0, pl_1, pl_2, pl_3, pl_4, pl_5, pl_6, pl_7, pl_8, pl_9, pl_10, pl_11, pl_12, pl_13, pl_14, pl_15, pl_16, pl_17, pl_18, pl_19, pl_20, pl_21, pl_22, pl_23, pl_24, pl_25, pl_26, pl_27, pl_28, pl_29, pl_30, pl_31, pl_32, pl_34, pl_36, pl_37, pl_40, pl_41, pl_42, pl_43, pl_45, pl_47, pl_48, pl_50, pl_57, pl_59, pl_60, pl_61, pl_62, pl_64, pl_70, pl_91, pl_93, pl_97, pl_98, pl_99, pl_100, pl_106, pl_122, pl_128, pl_136, pl_142, pl_165, pl_168, pl_170, pl_171, pl_173, pl_175, pl_187, pl_188, pl_189, pl_190, pl_206, pl_211, pl_219, pl_229, pl_255, pl_260, pl_400, pl_500, pl_512, pl_900, pl_999, pl_1000, pl_1001, pl_1005, pl_1020, pl_1023, pl_1024, pl_1103, pl_2000, pl_2040, pl_2176, pl_5660, pl_9999, pl_12345, pl_1000000, pl_1000003, pl_100000000, pl_1000000000, hlt, Option.getD_some, pBR_d, hne, q11_nearest]
  · unfold WthC
    rw [pI_sr_ne _ _ (by decide)]
    exact hS
theorem q0_thaws {g : am_G} {q : Option pLw} {ρ : Nat → Int32} {s : Nat} (hq : LawC g q) (hV : okV ρ) (hs : s < 6) (hS : WthC g ρ s) : ∃ g', fX0_thaws g = some (thw q ρ s, g') ∧ FcA g g' ∧ WthC g' ρ s := by
  obtain ⟨fl, hlt⟩ := q0_lastTold (kd := 2) (by decide) hq (Kag.bd hS (eW_bd hV hs))
  rw [tlv_ag hq.ok hS] at hlt
  have hlt : fX0_lastTold (nI 3) _ = _ := hlt
  refine ⟨_, ?_, (FcA.rf g).sr fl, ?_⟩
  · unfold fX0_thaws thw
    cases hv : tlv q 2 (eW ρ s) with
    | none =>
      rw [hv] at hlt
      simp (disch := first | omega | assumption | decide) only [↓pv_let, ↓pv_jn, ↓reduceIte, pv_bd, ↓pv_ocs, ↓pv_ocn, pv_gdt, pe_gd, pe_clamp, pt_eq, pf_eq, pt_le, pf_le, pt_lt, pf_lt, nI_add, nn_mul, pe_sub, pb_0, pb_1, pb_z, pe_ieq, pe_ine, pe_ik, pP_si, pS_si, pn_si, ps_si, pL_si, decide_true, ofNat_nI, pe_srI, pe_srN, pe_srS, pe_srP, not_true_eq_false, not_false_eq_true, true_and, and_true, and_self, false_and, and_false, nI_m1, nI_ms, Nat.add_sub_cancel, pl_0, pl_1, pl_2, pl_3, pl_4, pl_5, pl_6, pl_7, pl_8, pl_9, pl_10, pl_11, pl_12, pl_13, pl_14, pl_15, pl_16, pl_17, pl_18, pl_19, pl_20, pl_21, pl_22, pl_23, pl_24, pl_25, pl_26, pl_27, pl_28, pl_29, pl_30, pl_31, pl_32, pl_34, pl_36, pl_37, pl_40, pl_41, pl_42, pl_43, pl_45, pl_47, pl_48, pl_50, pl_57, pl_59, pl_60, pl_61, pl_62, pl_64, pl_70, pl_91, pl_93, pl_97, pl_98, pl_99, pl_100, pl_106, pl_122, pl_128, pl_136, pl_142, pl_165, pl_168, pl_170, pl_171, pl_173, pl_175, pl_187, pl_188, pl_189, pl_190, pl_206, pl_211, pl_219, pl_229, pl_255, pl_260, pl_400, pl_500, pl_512, pl_900, pl_999, pl_1000, pl_1001, pl_1005, pl_1020, pl_1023, pl_1024, pl_1103, pl_2000, pl_2040, pl_2176, pl_5660, pl_9999, pl_12345, pl_1000000, pl_1000003, pl_100000000, pl_1000000000, hlt, Option.getD_none, pBR_d]
    | some v =>
      rw [hv] at hlt
      have hne : (v = pBR) = False := eq_false (pBd_ne (tlv_bd hq.ok (eW_bd hV hs) hv))
      simp (disch := first | omega | assumption | decide) only [↓pv_let, ↓pv_jn, ↓reduceIte, pv_bd, ↓pv_ocs, ↓pv_ocn, pv_gdt, pe_gd, pe_clamp, pt_eq, pf_eq, pt_le, pf_le, pt_lt, pf_lt, nI_add, nn_mul, pe_sub, pb_0, pb_1, pb_z, pe_ieq, pe_ine, pe_ik, pP_si, pS_si, pn_si, ps_si, pL_si, decide_true, ofNat_nI, pe_srI, pe_srN, pe_srS, pe_srP, not_true_eq_false, not_false_eq_true, true_and, and_true, and_self, false_and, and_false, nI_m1, nI_ms, Nat.add_sub_cancel, pl_0, pl_1, pl_2, pl_3, pl_4, pl_5, pl_6, pl_7, pl_8, pl_9, pl_10, pl_11, pl_12, pl_13, pl_14, pl_15, pl_16, pl_17, pl_18, pl_19, pl_20, pl_21, pl_22, pl_23, pl_24, pl_25, pl_26, pl_27, pl_28, pl_29, pl_30, pl_31, pl_32, pl_34, pl_36, pl_37, pl_40, pl_41, pl_42, pl_43, pl_45, pl_47, pl_48, pl_50, pl_57, pl_59, pl_60, pl_61, pl_62, pl_64, pl_70, pl_91, pl_93, pl_97, pl_98, pl_99, pl_100, pl_106, pl_122, pl_128, pl_136, pl_142, pl_165, pl_168, pl_170, pl_171, pl_173, pl_175, pl_187, pl_188, pl_189, pl_190, pl_206, pl_211, pl_219, pl_229, pl_255, pl_260, pl_400, pl_500, pl_512, pl_900, pl_999, pl_1000, pl_1001, pl_1005, pl_1020, pl_1023, pl_1024, pl_1103, pl_2000, pl_2040, pl_2176, pl_5660, pl_9999, pl_12345, pl_1000000, pl_1000003, pl_100000000, pl_1000000000, hlt, Option.getD_some, pBR_d, hne, q11_nearest]
  · unfold WthC
    rw [pI_sr_ne _ _ (by decide)]
    exact hS
theorem q0_onDay (x : Int32) (g : am_G) : ∃ g', fX0_onDay x g = some ((), g') ∧ FcA g g' ∧ am_I g' 37 22 = x ∧ am_I g' 37 20 = am_I g 1 19 ∧ ∀ k, k ≠ 20 → k ≠ 22 → am_I g' 37 k = am_I g 37 k := by
  refine ⟨am_si (am_si g 37 22 x) 37 20 (am_I g 1 19), ?_, ((FcA.rf g).si _ _).si _ _, by simp (disch := decide) only [pe_ik, pe_ieq], pe_ieq _ _ _ _, fun k h1 h2 => by rw [pe_ik h1, pe_ik h2]⟩
  unfold fX0_onDay
  simp (disch := first | omega | assumption | decide) only [↓pv_let, ↓pv_jn, ↓reduceIte, pv_bd, ↓pv_ocs, ↓pv_ocn, pv_gdt, pe_gd, pe_clamp, pt_eq, pf_eq, pt_le, pf_le, pt_lt, pf_lt, nI_add, nn_mul, pe_sub, pb_0, pb_1, pb_z, pe_ieq, pe_ine, pe_ik, pP_si, pS_si, pn_si, ps_si, pL_si, decide_true, ofNat_nI, pe_srI, pe_srN, pe_srS, pe_srP, not_true_eq_false, not_false_eq_true, true_and, and_true, and_self, false_and, and_false, nI_m1, nI_ms, Nat.add_sub_cancel, pl_0, pl_1, pl_2, pl_3, pl_4, pl_5, pl_6, pl_7, pl_8, pl_9, pl_10, pl_11, pl_12, pl_13, pl_14, pl_15, pl_16, pl_17, pl_18, pl_19, pl_20, pl_21, pl_22, pl_23, pl_24, pl_25, pl_26, pl_27, pl_28, pl_29, pl_30, pl_31, pl_32, pl_34, pl_36, pl_37, pl_40, pl_41, pl_42, pl_43, pl_45, pl_47, pl_48, pl_50, pl_57, pl_59, pl_60, pl_61, pl_62, pl_64, pl_70, pl_91, pl_93, pl_97, pl_98, pl_99, pl_100, pl_106, pl_122, pl_128, pl_136, pl_142, pl_165, pl_168, pl_170, pl_171, pl_173, pl_175, pl_187, pl_188, pl_189, pl_190, pl_206, pl_211, pl_219, pl_229, pl_255, pl_260, pl_400, pl_500, pl_512, pl_900, pl_999, pl_1000, pl_1001, pl_1005, pl_1020, pl_1023, pl_1024, pl_1103, pl_2000, pl_2040, pl_2176, pl_5660, pl_9999, pl_12345, pl_1000000, pl_1000003, pl_100000000, pl_1000000000]
theorem q0_ofSaid {w : Nat} (hw : w < 16) (p l : Nat) {g : am_G} {ρ : Nat → Int32} (h15 : am_I g 13 w = ρ (142 + 4 * w + 0)) (h16 : am_I g 14 w = ρ (142 + 4 * w + 1)) (h20 : am_I g 37 20 = ρ 7) (h22 : am_I g 37 22 = ρ 6) : ∃ g', fX0_ofSaid (nI w) (nI p) (nI l) g = some ((), g') ∧ FcA g g' ∧ SaidC g' ρ w p l := by
  refine ⟨am_si (am_si (am_si (am_si (am_si g 37 14 (nI w)) 37 15 (am_I g 13 w)) 37 16 (am_I g 14 w)) 37 17 (nI p)) 37 13 (nI l), ?_, (((((FcA.rf g).si _ _).si _ _).si _ _).si _ _).si _ _, ?_⟩
  · unfold fX0_ofSaid
    simp (disch := first | omega | assumption | decide) only [↓pv_let, ↓pv_jn, ↓reduceIte, pv_bd, ↓pv_ocs, ↓pv_ocn, pv_gdt, pe_gd, pe_clamp, pt_eq, pf_eq, pt_le, pf_le, pt_lt, pf_lt, nI_add, nn_mul, pe_sub, pb_0, pb_1, pb_z, pe_ieq, pe_ine, pe_ik, pP_si, pS_si, pn_si, ps_si, pL_si, decide_true, ofNat_nI, pe_srI, pe_srN, pe_srS, pe_srP, not_true_eq_false, not_false_eq_true, true_and, and_true, and_self, false_and, and_false, nI_m1, nI_ms, Nat.add_sub_cancel, pl_0, pl_1, pl_2, pl_3, pl_4, pl_5, pl_6, pl_7, pl_8, pl_9, pl_10, pl_11, pl_12, pl_13, pl_14, pl_15, pl_16, pl_17, pl_18, pl_19, pl_20, pl_21, pl_22, pl_23, pl_24, pl_25, pl_26, pl_27, pl_28, pl_29, pl_30, pl_31, pl_32, pl_34, pl_36, pl_37, pl_40, pl_41, pl_42, pl_43, pl_45, pl_47, pl_48, pl_50, pl_57, pl_59, pl_60, pl_61, pl_62, pl_64, pl_70, pl_91, pl_93, pl_97, pl_98, pl_99, pl_100, pl_106, pl_122, pl_128, pl_136, pl_142, pl_165, pl_168, pl_170, pl_171, pl_173, pl_175, pl_187, pl_188, pl_189, pl_190, pl_206, pl_211, pl_219, pl_229, pl_255, pl_260, pl_400, pl_500, pl_512, pl_900, pl_999, pl_1000, pl_1001, pl_1005, pl_1020, pl_1023, pl_1024, pl_1103, pl_2000, pl_2040, pl_2176, pl_5660, pl_9999, pl_12345, pl_1000000, pl_1000003, pl_100000000, pl_1000000000]
  · unfold SaidC
    simp (disch := decide) only [pe_ik, pe_ieq, h15, h16, h20, h22, and_self]
theorem q0_ofWeather {s : Nat} (hs : s < 6) {g : am_G} {ρ : Nat → Int32} (h20 : am_I g 37 20 = ρ 7) (h22 : am_I g 37 22 = ρ 6) : ∃ g', fX0_ofWeather (nI s) (ρ (10 + 10 * s + 0)) g = some ((), g') ∧ FcA g g' ∧ WthC g' ρ s := by
  refine ⟨am_si (am_si (am_si (am_si (am_si (am_si (am_si (am_si g 37 14 (-1)) 37 15 (-1)) 37 16 (-1)) 37 17 (-1)) 37 13 (-1)) 37 18 (-1)) 37 19 (nI s)) 37 21 (ρ (10 + 10 * s + 0)), ?_, ((((((((FcA.rf g).si _ _).si _ _).si _ _).si _ _).si _ _).si _ _).si _ _).si _ _, ?_⟩
  · unfold fX0_ofWeather
    simp (disch := first | omega | assumption | decide) only [↓pv_let, ↓pv_jn, ↓reduceIte, pv_bd, ↓pv_ocs, ↓pv_ocn, pv_gdt, pe_gd, pe_clamp, pt_eq, pf_eq, pt_le, pf_le, pt_lt, pf_lt, nI_add, nn_mul, pe_sub, pb_0, pb_1, pb_z, pe_ieq, pe_ine, pe_ik, pP_si, pS_si, pn_si, ps_si, pL_si, decide_true, ofNat_nI, pe_srI, pe_srN, pe_srS, pe_srP, not_true_eq_false, not_false_eq_true, true_and, and_true, and_self, false_and, and_false, nI_m1, nI_ms, Nat.add_sub_cancel, pl_0, pl_1, pl_2, pl_3, pl_4, pl_5, pl_6, pl_7, pl_8, pl_9, pl_10, pl_11, pl_12, pl_13, pl_14, pl_15, pl_16, pl_17, pl_18, pl_19, pl_20, pl_21, pl_22, pl_23, pl_24, pl_25, pl_26, pl_27, pl_28, pl_29, pl_30, pl_31, pl_32, pl_34, pl_36, pl_37, pl_40, pl_41, pl_42, pl_43, pl_45, pl_47, pl_48, pl_50, pl_57, pl_59, pl_60, pl_61, pl_62, pl_64, pl_70, pl_91, pl_93, pl_97, pl_98, pl_99, pl_100, pl_106, pl_122, pl_128, pl_136, pl_142, pl_165, pl_168, pl_170, pl_171, pl_173, pl_175, pl_187, pl_188, pl_189, pl_190, pl_206, pl_211, pl_219, pl_229, pl_255, pl_260, pl_400, pl_500, pl_512, pl_900, pl_999, pl_1000, pl_1001, pl_1005, pl_1020, pl_1023, pl_1024, pl_1103, pl_2000, pl_2040, pl_2176, pl_5660, pl_9999, pl_12345, pl_1000000, pl_1000003, pl_100000000, pl_1000000000]
  · intro k k1 k2
    rcases (show k = 13 ∨ k = 14 ∨ k = 15 ∨ k = 16 ∨ k = 17 ∨ k = 18 ∨ k = 19 ∨ k = 20 ∨ k = 21 ∨ k = 22 by omega) with rfl | rfl | rfl | rfl | rfl | rfl | rfl | rfl | rfl | rfl <;> simp (disch := decide) only [pe_ik, pe_ieq, h20, h22] <;> rfl

/-! ===== the whole relation ===== -/
/-- a valley's cells -/
def ImS (g : am_G) (v : Nat) : Prop :=
  am_S g v = (9, 20) ∧ PkS g (v + 1) ∧ am_S g (v + 7) = (20, 6) ∧ am_S g (v + 8) = (20, 6) ∧ am_S g (v + 9) = (20, 6) ∧ am_S g (v + 10) = (20, 24) ∧ am_S g (v + 11) = (10, 5) ∧ (∀ c, c < 4 → am_P g (v + 11) c = some (v + 12 + c) ∧ am_S g (v + 12 + c) = (20, 16)) ∧ am_S g (v + 16) = (20, 5) ∧ (∀ c, c < 3 → am_S g (v + 17 + c) = (20, 6) ∧ am_S g (v + 20 + c) = (20, 10)) ∧ am_S g (v + 23) = (26, 6) ∧
  am_P g v 0 = some (v + 1) ∧ am_P g v 1 = some (v + 7) ∧ am_P g v 2 = some (v + 8) ∧ am_P g v 3 = some (v + 9) ∧ am_P g v 4 = some (v + 10) ∧ am_P g v 5 = some (v + 11) ∧ am_P g v 6 = some (v + 16) ∧ (∀ c, c < 3 → am_P g v (7 + c) = some (v + 17 + c) ∧ am_P g v (10 + c) = some (v + 20 + c)) ∧ am_P g v 13 = some (v + 23)
def ownT (own : Nat → Nat) (g : am_G) (p : Nat) : Prop := p < am_n g ∧ own p = 0 ∧ (∀ a, am_P g p 0 = some a → a < am_n g ∧ own a = 0) ∧ (∀ a, am_P g p 1 = some a → a < am_n g ∧ own a = 0)
/-- the first n laws in the array la are those of the row -/
def LwsR (own : Nat → Nat) (g : am_G) (la : Nat) (ρ : Row) (n : Nat) : Prop := (∀ l, l < n → ∃ p L, am_P g la l = some p ∧ TxtC g p L ∧ ownT own g p ∧ TxtR ρ (260 + 900 * l) L) ∧ ∀ l p, l < 6 → am_P g la l = some p → 79 ≤ p ∧ p < am_n g ∧ own p = 0 ∧ am_S g p = (6, 3)
def nulN (P : Nat → Option Nat) : Nat → Nat
  | 0 => 0
  | n + 1 => nulN P n + (if (P n).isNone then 1 else 0)
/-- ranges, strain and its parts up to B -/
def okB (B j : Nat) (x : Int32) : Prop := (stp j → 0 ≤ x.toInt ∧ x.toInt ≤ B) ∧ (¬ stp j → okAt 0 j x)
theorem okB.le {B B' j : Nat} {x : Int32} (h : okB B j x) (hB : B ≤ B') : okB B' j x := ⟨fun z => ⟨(h.1 z).1, by have := (h.1 z).2; omega⟩, h.2⟩
theorem okHi_st {t j : Nat} (h : stp j) : okHi t j = 239760 * t ∧ okLo j = 0 := by
  unfold okHi okLo
  unfold stp at h
  constructor
  · repeat' split
    all_goals first | rfl | (exfalso; omega) | omega | (simp; done) | trace_state
  · repeat' split
    all_goals first | rfl | (exfalso; omega) | omega | (simp; done) | trace_state
theorem okHi_nst {t j : Nat} (h : ¬ stp j) (hj : j < 259) : okHi t j = okHi 0 j := by
  unfold okHi
  unfold stp at h
  repeat' split
  all_goals first | rfl | (exfalso; omega) | omega | (simp; done) | trace_state
theorem okB_iff {t j : Nat} (hj : j < 259) (x : Int32) : okAt t j x ↔ okB (239760 * t) j x := by
  by_cases hs : stp j
  · obtain ⟨e1, e2⟩ := okHi_st (t := t) hs
    have hs' := hs
    unfold stp at hs'
    constructor
    · intro h
      refine ⟨fun _ => ?_, fun z => absurd hs z⟩
      rcases h.1 with z | z | z | z
      · omega
      · omega
      · exact z.2.2.2.elim
      · rw [e1, e2] at z
        exact ⟨z.1, by have := z.2; omega⟩
    · intro h
      have := h.1 hs
      refine ⟨Or.inr (Or.inr (Or.inr ⟨by rw [e2]; exact this.1, by rw [e1]; have := this.2; omega⟩)), fun z => ?_⟩
      omega
  · have e := okHi_nst (t := t) hs hj
    have ee : okAt t j x ↔ okAt 0 j x := by unfold okAt; rw [e]
    exact ⟨fun h => ⟨fun z => absurd z hs, fun _ => ee.mp h⟩, fun h => ee.mpr (h.2 hs)⟩
/-- what the reference's heap always holds, strain up to B -/
def InvB (B : Nat) (g : am_G) : Prop := (∀ j, j < 259 → okB B j (am_I g 2 j)) ∧ (am_I g 2 5 = -1 ∨ (am_I g 2 5).toInt < (am_I g 2 4).toInt) ∧ (0 ≤ (am_I g 0 13).toInt ∧ (am_I g 0 13).toInt ≤ 400) ∧ (0 ≤ (am_I g 0 8).toInt ∧ (am_I g 0 8).toInt ≤ 16)
theorem inv_iff {t : Nat} {g : am_G} : Inv t g ↔ InvB (239760 * t) g := by
  unfold Inv InvB
  constructor
  · intro h
    exact ⟨fun j hj => (okB_iff hj _).mp (h.1 j hj), h.2⟩
  · intro h
    exact ⟨fun j hj => (okB_iff hj _).mpr (h.1 j hj), h.2⟩
def UndoR (own : Nat → Nat) (B : Nat) (gc gr : am_G) : Prop :=
  ∃ x k, x < 16 ∧ k ≤ 16 ∧ am_I gc 26 2 = nI x ∧ am_I gr 0 8 = nI k ∧
    (∀ j p, j < 16 → am_P gc 27 j = some p → 79 ≤ p ∧ p + 5 < am_n gc ∧ PkS gc p ∧ ∀ c, c < 6 → own (p + c) = 1 + j) ∧
    ∀ i, i < k → ∃ p, am_P gc 27 ((x + 16 - k + i) % 16) = some p ∧ am_I gc 28 ((x + 16 - k + i) % 16) = am_I gr 6 i ∧ (am_I gr 6 i = nI 0 ∨ am_I gr 6 i = nI 1) ∧ ∀ j, 6 ≤ j → j < 142 → vr gc 1 p j = am_I gr 5 (136 * i + (j - 6)) ∧ okB B j (am_I gr 5 (136 * i + (j - 6)))
def imr (g : am_G) (k : Nat) : Row := fun j => am_I g 3 (5660 * k + j)
def ImgR (own : Nat → Nat) (B : Nat) (gc gr : am_G) : Prop :=
  ∀ k, k < 2 → (am_P gc 25 k = none ∧ am_I gr 4 k = nI 0) ∨ ∃ v, am_P gc 25 k = some v ∧ am_I gr 4 k = nI 1 ∧ 79 ≤ v ∧ v + 23 < am_n gc ∧ ImS gc v ∧ (∀ c, c < 24 → own (v + c) = 100 + k) ∧
    (∀ j, j < 259 → vr gc v (v + 1) j = imr gr k j ∧ okB B j (imr gr k j)) ∧ (imr gr k 5 = -1 ∨ (imr gr k 5).toInt < (imr gr k 4).toInt) ∧ ∃ n, n ≤ 6 ∧ imr gr k 4 = nI n ∧ LwsR own gc (v + 23) (imr gr k) n
def TapeR (gc gr : am_G) : Prop := ∀ i, i < 400 → am_I gc 30 i &&& nI 255 = am_I gr 9 i ∧ ∃ m, m < 256 ∧ am_I gr 9 i = nI m ∧ am_I gc 30 i = (if m < 128 then nI m else nI m - nI 256)
/-- the class's text that is read into -/
def ShR (g : am_G) : Prop := am_S g 33 = (6, 3) ∧ am_S g 34 = (20, 72) ∧ am_S g 35 = (20, 512) ∧ am_P g 33 0 = some 34 ∧ am_P g 33 1 = some 35 ∧ am_S g 56 = (20, 6)
theorem ShR.tra {g g' : am_G} (h : ShR g) (e : ∀ a, a = 33 ∨ a = 34 ∨ a = 35 ∨ a = 56 → am_S g' a = am_S g a) (e' : am_P g' 33 = am_P g 33) : ShR g' := by
  unfold ShR at h ⊢
  rw [e 33 (by omega), e 34 (by omega), e 35 (by omega), e 56 (by omega), e']
  exact h
theorem ShR.eq {g g' : am_G} (h : ShR g) (e1 : am_P g' = am_P g) (e2 : am_S g' = am_S g) : ShR g' := h.tra (fun a _ => by rw [e2]) (by rw [e1])
def CstR (t : Nat) (gc gr : am_G) : Prop :=
  am_I gc 28 100 = nI 0 ∧ ImS gc 1 ∧ PkS gc 65 ∧ PkS gc 71 ∧ 79 ≤ am_n gc ∧ am_n gr = 35 ∧ am_s gr = am_s am_gr ∧ am_n gc + 6 * nulN (am_P gc 27) 16 ≤ 175 + 30 * t ∧ am_s gc + 98 * nulN (am_P gc 27) 16 ≤ am_s am_gc + 1568 + 1100 * t ∧
  am_L gr 15 = am_L am_gr 15 ∧ am_L gr 16 = am_L am_gr 16 ∧ am_L gr 17 = am_L am_gr 17 ∧ ShR gc
def WinR (gc gr : am_G) : Prop := ∀ s, s < 6 → am_I gc 72 s = am_I gr 34 (2 * s) ∧ am_I gc 76 s = am_I gr 34 (2 * s + 1)
/-- all of it but the row, with the owners of the class's later cells -/
def RelO (own : Nat → Nat) (B t : Nat) (gc gr : am_G) : Prop := UndoR own B gc gr ∧ ImgR own B gc gr ∧ TapeR gc gr ∧ CstR t gc gr ∧ WinR gc gr ∧ ∃ n, n ≤ 6 ∧ am_I gr 2 4 = nI n ∧ LwsR own gc 24 (am_I gr 2) n
def RelM (B t : Nat) (gc gr : am_G) : Prop := Rc gc gr ∧ InvB B gr ∧ ∃ own, RelO own B t gc gr
def Rel (t : Nat) (gc gr : am_G) : Prop := RelM (239760 * t) t gc gr
theorem TxtC.tra {g h : am_G} {p : Nat} {L : pLw} (hT : TxtC g p L) (e : ∀ a, (a = p ∨ am_P g p 0 = some a ∨ am_P g p 1 = some a) → am_S h a = am_S g a ∧ am_P h a = am_P g a ∧ am_I h a = am_I g a) : TxtC h p L := by
  obtain ⟨t1, t2, t3, t4, pr, ps, ns, t5, t6, t7, t8, t9, t10, t11⟩ := hT
  have ep := e p (Or.inl rfl)
  have er := e pr (Or.inr (Or.inl t5))
  have es := e ps (Or.inr (Or.inr t6))
  refine ⟨by rw [ep.1]; exact t1, t2, by rw [ep.2.2]; exact t3, t4, pr, ps, ns, by rw [ep.2.1]; exact t5, by rw [ep.2.1]; exact t6, t7, t8, by rw [er.1]; exact t9, by rw [es.1]; exact t10, ?_⟩
  rw [er.2.2, es.2.2]
  exact t11
/-- cells of owner 0 stay -/
theorem LwsR.tra {own own' : Nat → Nat} {g h : am_G} {la la' : Nat} {ρ ρ' : Row} {n : Nat} (hL : LwsR own g la ρ n) (hn : am_n g ≤ am_n h) (hla : ∀ l, l < 6 ∨ l < n → am_P h la' l = am_P g la l) (e : ∀ a, 79 ≤ a → a < am_n g → own a = 0 → own' a = 0 ∧ am_S h a = am_S g a ∧ am_P h a = am_P g a ∧ am_I h a = am_I g a) (hρ : ∀ k, 260 ≤ k → ρ' k = ρ k) : LwsR own' h la' ρ' n := by
  refine ⟨fun l hl => ?_, fun l p hl hp => ?_⟩
  rotate_left
  · rw [hla l (Or.inl hl)] at hp
    obtain ⟨a, b, c, d⟩ := hL.2 l p hl hp
    have ep := e p a b c
    exact ⟨a, Nat.lt_of_lt_of_le b hn, ep.1, by rw [ep.2.1]; exact d⟩
  obtain ⟨p, L, h1, h2, h3, h4⟩ := hL.1 l hl
  obtain ⟨o1, o2, o3, o4⟩ := h3
  have h79 := h2.2.2.2.1
  obtain ⟨x1, x2, x3, x4, pr, ps, ns, t5, t6, t7, t8, -⟩ := id h2
  have ep := e p h79 o1 o2
  have er := e pr t7 (o3 pr t5).1 (o3 pr t5).2
  have es := e ps t8 (o4 ps t6).1 (o4 ps t6).2
  refine ⟨p, L, by rw [hla l (Or.inr hl)]; exact h1, h2.tra ?_, ⟨Nat.lt_of_lt_of_le o1 hn, ep.1, ?_, ?_⟩, h4.cg (fun k hk => hρ k (by omega))⟩
  · rintro a (rfl | ha | ha)
    · exact ep.2
    · rw [t5] at ha; rw [← Option.some.inj ha]; exact er.2
    · rw [t6] at ha; rw [← Option.some.inj ha]; exact es.2
  · intro a ha
    rw [ep.2.2.1, t5] at ha
    rw [← Option.some.inj ha]
    exact ⟨Nat.lt_of_lt_of_le (o3 pr t5).1 hn, er.1⟩
  · intro a ha
    rw [ep.2.2.1, t6] at ha
    rw [← Option.some.inj ha]
    exact ⟨Nat.lt_of_lt_of_le (o4 ps t6).1 hn, es.1⟩
theorem ImS.eq {g g' : am_G} {v : Nat} (h : ImS g v) (e1 : am_P g' = am_P g) (e2 : am_S g' = am_S g) : ImS g' v := by
  unfold ImS PkS at h ⊢
  rw [e1, e2]
  exact h
theorem PkS.eq2 {g g' : am_G} {p : Nat} (h : PkS g p) (e1 : am_P g' = am_P g) (e2 : am_S g' = am_S g) : PkS g' p := by
  unfold PkS at h ⊢
  rw [e1, e2]
  exact h
/-- the row's places are those of the class -/
theorem om_vr : ∀ j, j < 259 → ((2, j), (vA 1 2 j, vS j)) ∈ om := by decide +kernel
theorem Rc.row {gc gr : am_G} (h : Rc gc gr) : vr gc 1 2 = rr gr := by
  funext j
  by_cases hj : j < 259
  · rw [vr_at hj, rr_at hj]
    exact h _ (om_vr j hj)
  · unfold vr rr; rw [if_neg hj, if_neg hj]
theorem npk_pkj : ∀ j, 6 ≤ j → j < 142 → ¬ pkj j → npk j ∧ (vT j).1 = false := by
  have key : ∀ j, j < 142 → 6 ≤ j → (vT j).1 = true ∨ ((vT j).1 = false ∧ (j = 7 ∨ (10 ≤ j ∧ j < 70 ∧ 1 ≤ (j - 10) % 10 ∧ (j - 10) % 10 < 8))) := by decide +kernel
  have key2 : ∀ j, j < 142 → 6 ≤ j → (vT j).1 = true → ¬ (j = 7 ∨ (10 ≤ j ∧ j < 70 ∧ 1 ≤ (j - 10) % 10 ∧ (j - 10) % 10 < 8)) := by decide +kernel
  intro j h1 h2 h3
  rcases key j h2 h1 with z | z
  · exact absurd (show pkj j by have := key2 j h2 h1 z; unfold pkj; omega) h3
  · exact ⟨z.2, z.1⟩
theorem pk_vT : ∀ j, 6 ≤ j → j < 142 → pkj j → (vT j).1 = true := by
  have key : ∀ j, j < 142 → 6 ≤ j → (vT j).1 = false → (j = 7 ∨ (10 ≤ j ∧ j < 70 ∧ 1 ≤ (j - 10) % 10 ∧ (j - 10) % 10 < 8)) := by decide +kernel
  intro j h1 h2 h3
  cases hc : (vT j).1
  · have := key j h2 h1 hc
    unfold pkj at h3
    omega
  · rfl
/-- a quiet step keeps the relation -/
theorem RelM.step {B B1 t t1 : Nat} {gc gr gc1 gr1 : am_G} (h : RelM B t gc gr) (hB : B ≤ B1) (ht : t ≤ t1) (hs : Rc gc1 gr1 ∧ InvB B1 gr1 ∧ Qc gc gc1 ∧ Qr gr gr1 ∧ Qu gr gr1) : RelM B1 t1 gc1 gr1 := by
  obtain ⟨hR, hI, own, hU, hG, hT, hC, hW, nl, hnl, enl, hLw⟩ := h
  obtain ⟨hR1, hI1, ⟨q1, q2, q3, q4, q5, q6, q7, q8, q9, q10⟩, ⟨r1, r2, r3, r4, r5, r6, r7, r8, r9, r10, r11, r12⟩, hQ⟩ := hs
  have lw : ∀ {la : Nat} {ρ ρ' : Row} {n : Nat}, LwsR own gc la ρ n → (∀ k, 260 ≤ k → ρ' k = ρ k) → LwsR own gc1 la ρ' n := fun hL hρ => hL.tra (Nat.le_of_eq q9.symm) (fun l _ => by rw [q7]) (fun a ha _ ho => ⟨ho, by rw [q8], by rw [q7], q6 a ha⟩) hρ
  refine ⟨hR1, hI1, own, ?_, ?_, ?_, ?_, ?_, nl, hnl, ?_, ?_⟩
  · obtain ⟨x, k, hx, hk, e1, e2, hp, hu⟩ := hU
    have hp1 : ∀ j p, j < 16 → am_P gc1 27 j = some p → 79 ≤ p ∧ p + 5 < am_n gc1 ∧ PkS gc1 p ∧ ∀ c, c < 6 → own (p + c) = 1 + j := by
      intro j p hj hjp
      rw [q7] at hjp
      obtain ⟨z1, z2, z3, z4⟩ := hp j p hj hjp
      exact ⟨z1, by rw [q9]; exact z2, z3.eq2 q7 q8, z4⟩
    rcases hQ with z | ⟨z, hz⟩
    · exact ⟨x, 0, hx, by omega, by rw [q1]; exact e1, z, hp1, fun i hi => absurd hi (by omega)⟩
    · refine ⟨x, k, hx, hk, by rw [q1]; exact e1, by rw [z]; exact e2, hp1, fun i hi => ?_⟩
      obtain ⟨p, u1, u2, u3, u4⟩ := hu i hi
      refine ⟨p, by rw [q7]; exact u1, by rw [q2, r4]; exact u2, by rw [r4]; exact u3, fun j h1 h2 => ?_⟩
      obtain ⟨v1, v2⟩ := u4 j h1 h2
      rw [r3]
      refine ⟨?_, v2.le hB⟩
      rw [← v1]
      have hp79 := (hp _ p (Nat.mod_lt _ (by decide)) u1).1
      by_cases hpk : pkj j
      · rw [vr_at (by omega), vr_at (by omega)]
        have hv := pk_vT j h1 h2 hpk
        have : 79 ≤ vA 1 p j := by unfold vA; rw [if_pos hv]; omega
        rw [q6 _ this]
      · obtain ⟨hn, hv⟩ := npk_pkj j h1 h2 hpk
        have e : vA 1 p j = vA 1 2 j := by unfold vA; rw [hv]; rfl
        rw [vr_at (by omega), vr_at (by omega), e, hR1 _ (om_vr j (by omega)), hR _ (om_vr j (by omega))]
        exact hz j hn
  · intro k hk
    rcases hG k hk with ⟨z1, z2⟩ | ⟨v, z1, z2, z3, z4, z5, z6, z7, z8, n, z9, z10, z11⟩
    · exact Or.inl ⟨by rw [q7]; exact z1, by rw [r2]; exact z2⟩
    · have ei : imr gr1 k = imr gr k := by unfold imr; rw [r1]
      refine Or.inr ⟨v, by rw [q7]; exact z1, by rw [r2]; exact z2, z3, by rw [q9]; exact z4, z5.eq q7 q8, z6, fun j hj => ?_, by rw [ei]; exact z8, n, z9, by rw [ei]; exact z10, ?_⟩
      · rw [ei]
        refine ⟨?_, (z7 j hj).2.le hB⟩
        rw [← (z7 j hj).1, vr_at hj, vr_at hj, q6 _ (by have := vA_rg (v := v) (p := v + 1) hj; omega)]
      · rw [ei]
        exact lw z11 (fun _ _ => rfl)
  · intro i hi
    rw [q3, r5]
    exact hT i hi
  · obtain ⟨c1, c2, c3, c4, c5, c6, c7, c8, c9, c10, c11, c12⟩ := hC
    exact ⟨by rw [q2]; exact c1, c2.eq q7 q8, c3.eq2 q7 q8, c4.eq2 q7 q8, by rw [q9]; exact c5, by rw [r11]; exact c6, by rw [r12]; exact c7, by rw [q9, q7]; omega, by rw [q10, q7]; omega, by rw [r8]; exact c10, by rw [r9]; exact c11, by rw [r10]; exact c12.1, c12.2.eq q7 q8⟩
  · intro s hs
    rw [q4, q5, r6]
    exact hW s hs
  · rw [r7 4 (Or.inr rfl)]; exact enl
  · exact lw hLw (fun k hk => r7 k (Or.inl hk))
theorem Rel.inv {t : Nat} {gc gr : am_G} (h : Rel t gc gr) : Inv t gr := inv_iff.mpr h.2.1
/-- a quiet call keeps the relation -/
theorem Rel.quiet {t : Nat} {gc gr gc1 gr1 : am_G} (h : Rel t gc gr) (hs : Sm t gc gr gc1 gr1) : Rel (t + 1) gc1 gr1 :=
  RelM.step h (by omega) (Nat.le_succ t) ⟨hs.1, inv_iff.mp hs.2.1, hs.2.2⟩
theorem RelM.ord {B t : Nat} {gc gr : am_G} (h : RelM B t gc gr) : am_I gr 0 20 = nI 0 := by
  obtain ⟨hR, hI, own, hU, hG, hT, hC, hW, nl, hnl, enl, hLw⟩ := h
  rw [← hR.at (ra := 0) (rk := 20) (ca := 28) (ck := 100) (by decide +kernel)]
  exact hC.1
theorem InvB.ov {B : Nat} {g : am_G} (h : InvB B g) : okV (am_I g 2) := fun j hj hs => (h.1 j hj).2 hs
theorem InvB.ow {B : Nat} {g : am_G} (h : InvB B g) : okV (rr g) := (h.ov).cg fun j hj _ => rr_at hj
/-- the law in force -/
theorem RelM.law {B t : Nat} {gc gr : am_G} (h : RelM B t gc gr) : ∃ q, LawC gc q ∧ LawR (am_I gr 2) q := by
  obtain ⟨hR, hI, own, hU, hG, hT, hC, hW, nl, hnl, enl, hLw⟩ := h
  have ec : am_I gc 1 18 = am_I gr 2 5 := hR.at (by decide +kernel)
  rcases hI.2.1 with z | z
  · exact ⟨none, Or.inl ⟨ec.trans z, rfl⟩, Or.inl ⟨z, rfl⟩⟩
  · have h5 := ((hI.1 5 (by decide)).2 (by unfold stp; omega)).1
    have hlo : -1 ≤ (am_I gr 2 5).toInt := by
      rcases h5 with w | w | w | w
      · exact absurd w (by decide)
      · exact absurd w (by decide)
      · exact absurd w.1 (by decide)
      · exact w.1
    by_cases hm : am_I gr 2 5 = -1
    · exact ⟨none, Or.inl ⟨ec.trans hm, rfl⟩, Or.inl ⟨hm, rfl⟩⟩
    · have h0 : 0 ≤ (am_I gr 2 5).toInt := by
        have : (am_I gr 2 5).toInt ≠ -1 := fun w => hm (Int32.toInt_inj.mp (by rw [w]; rfl))
        omega
      have hle : (0 : Int32) ≤ am_I gr 2 5 := Int32.le_iff_toInt_le.mpr (by have : (0 : Int32).toInt = 0 := rfl; omega)
      obtain ⟨e1, e2⟩ := nn_of hle
      rw [enl, nn_toInt (by omega)] at z
      have e3 : (am_I gr 2 5).toNatClampNeg = (am_I gr 2 5).toInt.toNat := rfl
      obtain ⟨p, L, h1, h2, h3, h4⟩ := hLw.1 (am_I gr 2 5).toNatClampNeg (by omega)
      exact ⟨some L, Or.inr ⟨_, L, p, by omega, ec.trans e1, h1, h2, rfl⟩, Or.inr ⟨_, L, by omega, e1, h4, rfl⟩⟩

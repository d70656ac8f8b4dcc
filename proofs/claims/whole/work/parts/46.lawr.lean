/-! ===== a law in the reference: what it tells ===== -/
/-- only what a reckoning writes differs -/
def FrE (g g' : am_G) : Prop := (∀ a k, ¬ (a = 0 ∧ k = 38) → am_I g' a k = am_I g a k) ∧ (∀ a k, a ≠ 20 → ¬ (a = 0 ∧ (k = 39 ∨ k = 40)) → am_L g' a k = am_L g a k) ∧ g'.2.2 = g.2.2
def FrS (g g' : am_G) : Prop := (∀ a k, ¬ (a = 0 ∧ (k = 34 ∨ k = 38)) → am_I g' a k = am_I g a k) ∧ (∀ a k, a ≠ 20 → a ≠ 18 → ¬ (a = 0 ∧ (k = 39 ∨ k = 40)) → am_L g' a k = am_L g a k) ∧ g'.2.2 = g.2.2
theorem FrE.rf (g : am_G) : FrE g g := ⟨fun _ _ _ => rfl, fun _ _ _ _ => rfl, rfl⟩
theorem FrE.tr {g h i : am_G} (h1 : FrE g h) (h2 : FrE h i) : FrE g i := ⟨fun a k z => (h2.1 a k z).trans (h1.1 a k z), fun a k z w => (h2.2.1 a k z w).trans (h1.2.1 a k z w), h2.2.2.trans h1.2.2⟩
theorem FrS.rf (g : am_G) : FrS g g := ⟨fun _ _ _ => rfl, fun _ _ _ _ _ => rfl, rfl⟩
theorem FrS.tr {g h i : am_G} (h1 : FrS g h) (h2 : FrS h i) : FrS g i := ⟨fun a k z => (h2.1 a k z).trans (h1.1 a k z), fun a k z w x => (h2.2.1 a k z w x).trans (h1.2.1 a k z w x), h2.2.2.trans h1.2.2⟩
theorem FrE.S {g h : am_G} (h1 : FrE g h) : FrS g h := ⟨fun a k z => h1.1 a k (fun w => z ⟨w.1, Or.inr w.2⟩), fun a k z _ w => h1.2.1 a k z w, h1.2.2⟩
theorem FrE.row {g g' : am_G} (h : FrE g g') {a : Nat} (ha : a ≠ 0) : am_I g' a = am_I g a := funext fun k => h.1 a k (fun z => ha z.1)
theorem FrS.row {g g' : am_G} (h : FrS g g') {a : Nat} (ha : a ≠ 0) : am_I g' a = am_I g a := funext fun k => h.1 a k (fun z => ha z.1)
theorem FrE.run (g : am_G) (f : Nat → Int64) (x : Int32) (w : Int64) : FrE g (am_sl (am_si (am_srL g 20 f) 0 38 x) 0 39 w) := by
  refine ⟨fun a k h => ?_, fun a k h h' => ?_, rfl⟩
  · rw [rI_sl, pI_si, if_neg h, rI_srL]
  · rw [pL_sl, if_neg (fun z => h' ⟨z.1, Or.inl z.2⟩), rL_si, rL_ne _ _ h]
theorem FrE.sl40 (g : am_G) (w : Int64) : FrE g (am_sl g 0 40 w) := by
  refine ⟨fun a k h => by rw [rI_sl], fun a k h h' => ?_, rfl⟩
  rw [pL_sl, if_neg (fun z => h' ⟨z.1, Or.inr z.2⟩)]
theorem LfR.fr {g g' : am_G} {K : Nat → Int32} (h : LfR false g K) (hf : FrE g g') : LfR false g' K :=
  ⟨fun e => ⟨by rw [hf.1 0 20 (by decide)]; exact (h.1 e).1, fun k h1 h2 => by rw [hf.2.1 18 k (by decide) (by omega)]; exact (h.1 e).2 k h1 h2⟩, fun e => absurd e (by decide)⟩
def TxtR (ρ : Nat → Int32) (b : Nat) (L : pLw) : Prop :=
  b + 900 ≤ 5660 ∧ ρ (b + 1) = nI L.1 ∧ L.1 ≤ 12 ∧ ∃ (o r : Nat → Nat) (nc : Nat), nc < 400 ∧ (∀ i, i < nc → ρ (b + 98 + 2 * i) = nI (o i) ∧ ρ (b + 98 + 2 * i + 1) = nI (r i)) ∧
    ∀ i, i < L.1 → okC (L.2 i) ∧ ρ (b + 2 + 8 * i) = nI (L.2 i).1 ∧ ((L.2 i).1 ≠ 3 → ∃ f l, ρ (b + 2 + 8 * i + 3) = nI f ∧ ρ (b + 2 + 8 * i + 4) = nI l ∧ l ≤ nc ∧ ValR false o r f l (L.2 i).2.1) ∧
      (∀ T, (L.2 i).2.2 = some T → ∃ f l, ρ (b + 2 + 8 * i + 5) = nI f ∧ ρ (b + 2 + 8 * i + 6) = nI l ∧ l ≤ nc ∧ ValR false o r f l T) ∧ ((L.2 i).2.2 = none → ρ (b + 2 + 8 * i + 6) = ρ (b + 2 + 8 * i + 5))
theorem ValR.lt {md : Bool} {o r : Nat → Nat} {a b : Nat} {D : pD} (h : ValR md o r a b D) : a < b ∧ b < 400 := by
  obtain ⟨d, h1, h2, h3⟩ := h
  exact ⟨h1.1, h3⟩
theorem q12_isSo {g : am_G} {b i kd : Nat} {L : pLw} {K : Nat → Int32} (hT : TxtR (am_I g 2) b L) (hL : LfR false g K) (h34 : am_I g 0 34 = nI b) (hi : i < L.1) (hk : (L.2 i).1 = kd) : ∃ (x : Int32) (g' : am_G), fX12_isSo (nI (b + 2 + 8 * i)) g = some (x, g') ∧ FrE g g' ∧ (clv kd K (L.2 i) = none → x = nI 0) ∧ ∀ v, clv kd K (L.2 i) = some v → x = nI 1 ∧ (kd ≠ 3 → am_L g' 0 40 = v.toInt64) := by
  obtain ⟨h1, h2, h3, o, r, nc, hnc, hcode, hcl⟩ := hT
  obtain ⟨c0, c1, c2, c3, c4⟩ := hcl i hi
  have h20 := (hL.1 rfl).1
  have run : ∀ (g1 : am_G) (f l : Nat) (D : pD), FrE g g1 → l ≤ nc → ValR false o r f l D → ∃ (fl : Nat → Int64) (x : Int32) (w : Int64), fX12_reckonAll (nI f) (nI l) g1 = some ((), am_sl (am_si (am_srL g1 20 fl) 0 38 x) 0 39 w) ∧ (∀ v, D K = some v → x = nI 0 ∧ w = v.toInt64) ∧ (D K = none → x = nI 1) := by
    intro g1 f l D hfr hl hV
    refine hV.run (fun j j1 j2 => Or.inl ⟨?_, b, ?_, by omega, ?_, ?_⟩) (hL.fr hfr)
    · rw [hfr.1 0 20 (by decide)]; exact h20
    · rw [hfr.1 0 34 (by decide)]; exact h34
    · rw [hfr.row (by decide)]; exact (hcode j (by omega)).1
    · rw [hfr.row (by decide)]; exact (hcode j (by omega)).2
  have hkd : kd < 4 := by rw [← hk]; exact c0.1
  -- the sum
  have fin : ∀ g1, FrE g g1 → ∃ (x : Int32) (g' : am_G), (if am_I g1 2 (b + 2 + 8 * i) = nI 3 then some (nI 1, g1) else am_bd (fX12_reckonAll (am_I g1 2 (b + 2 + 8 * i + 3)) (am_I g1 2 (b + 2 + 8 * i + 4)) g1) fun _ g11 => am_let (am_sl g11 0 40 (am_L g11 0 39)) fun g13 => if am_I g13 0 38 = nI 0 then some (nI 1, g13) else some (nI 0, g13)) = some (x, g') ∧ FrE g g' ∧ ((if kd = 3 then some (nI 1) else (L.2 i).2.1 K) = none → x = nI 0) ∧ ∀ v, (if kd = 3 then some (nI 1) else (L.2 i).2.1 K) = some v → x = nI 1 ∧ (kd ≠ 3 → am_L g' 0 40 = v.toInt64) := by
    intro g1 hfr
    rw [hfr.row (show 2 ≠ 0 by decide), c1, hk]
    by_cases h3 : kd = 3
    · subst h3
      rw [if_pos rfl, if_pos rfl]
      exact ⟨nI 1, g1, rfl, hfr, fun z => absurd z (by simp), fun v hv => ⟨rfl, fun z => absurd rfl z⟩⟩
    · obtain ⟨f, l, e1, e2, hl, hV⟩ := c2 (by omega)
      obtain ⟨fl, x, w, q, q1, q2⟩ := run g1 f l _ hfr hl hV
      rw [if_neg (fun z => h3 ((nn_eq (b := 3) (by omega) (by decide)).mp z)), if_neg h3, e1, e2, q, pu_bd, pu_let]
      have ex : am_I (am_sl (am_sl (am_si (am_srL g1 20 fl) 0 38 x) 0 39 w) 0 40 (am_L (am_sl (am_si (am_srL g1 20 fl) 0 38 x) 0 39 w) 0 39)) 0 38 = x := by rw [rI_sl, rI_sl, pe_ieq]
      have e40 : am_L (am_sl (am_sl (am_si (am_srL g1 20 fl) 0 38 x) 0 39 w) 0 40 (am_L (am_sl (am_si (am_srL g1 20 fl) 0 38 x) 0 39 w) 0 39)) 0 40 = w := by rw [rLk, rLk]
      have hfr2 := (hfr.tr (FrE.run g1 fl x w)).tr (FrE.sl40 _ (am_L (am_sl (am_si (am_srL g1 20 fl) 0 38 x) 0 39 w) 0 39))
      rw [ex]
      cases hD : (L.2 i).2.1 K with
      | none =>
        rw [q2 hD, if_neg (by decide)]
        rw [q2 hD] at hfr2
        exact ⟨_, _, rfl, hfr2, fun _ => rfl, fun v hv => absurd hv (by simp)⟩
      | some v =>
        obtain ⟨q3, q4⟩ := q1 v hD
        rw [q3, if_pos rfl]
        rw [q3] at hfr2 e40
        exact ⟨_, _, rfl, hfr2, fun z => absurd z (by simp), fun u hu => ⟨rfl, fun _ => by rw [e40, q4, Option.some.inj hu]⟩⟩
  unfold clv
  rw [if_pos hk]
  cases hT2 : (L.2 i).2.2 with
  | none =>
    obtain ⟨x, g', e, hfr, r1, r2⟩ := fin g (FrE.rf g)
    refine ⟨x, g', ?_, hfr, r1, r2⟩
    rw [← e]
    have c5 := c4 hT2
    unfold fX12_isSo
    simp (disch := first | omega | assumption | decide) only [↓pv_let, ↓pv_jn, ↓reduceIte, pv_bd, ↓pv_ocs, ↓pv_ocn, pv_gdt, pe_gd, pe_clamp, pt_eq, pf_eq, pt_le, pf_le, pt_lt, pf_lt, nI_add, nn_mul, pe_sub, pb_0, pb_1, pb_z, pe_ieq, pe_ine, pe_ik, pP_si, pS_si, pn_si, ps_si, pL_si, decide_true, ofNat_nI, pe_srI, pe_srN, pe_srS, pe_srP, not_true_eq_false, not_false_eq_true, true_and, and_true, and_self, false_and, and_false, nI_m1, nI_ms, Nat.add_sub_cancel, pl_0, pl_1, pl_2, pl_3, pl_4, pl_5, pl_6, pl_7, pl_8, pl_9, pl_10, pl_11, pl_12, pl_13, pl_14, pl_15, pl_16, pl_17, pl_18, pl_19, pl_20, pl_21, pl_22, pl_23, pl_24, pl_25, pl_26, pl_27, pl_28, pl_29, pl_30, pl_31, pl_32, pl_34, pl_36, pl_37, pl_40, pl_41, pl_42, pl_43, pl_45, pl_47, pl_48, pl_50, pl_57, pl_59, pl_60, pl_61, pl_62, pl_64, pl_70, pl_91, pl_93, pl_97, pl_98, pl_99, pl_100, pl_106, pl_122, pl_128, pl_136, pl_142, pl_165, pl_168, pl_170, pl_171, pl_173, pl_175, pl_187, pl_188, pl_189, pl_190, pl_206, pl_211, pl_219, pl_229, pl_255, pl_260, pl_400, pl_500, pl_512, pl_900, pl_999, pl_1000, pl_1001, pl_1005, pl_1020, pl_1023, pl_1024, pl_1103, pl_2000, pl_2040, pl_2176, pl_5660, pl_9999, pl_12345, pl_1000000, pl_1000003, pl_100000000, pl_1000000000, c5, Int32.le_refl]
  | some T =>
    obtain ⟨f, l, e1, e2, hl, hV⟩ := c3 T hT2
    obtain ⟨fl, x, w, q, q1, q2⟩ := run g f l _ (FrE.rf g) hl hV
    have hlt := hV.lt
    have hfr1 := FrE.run g fl x w
    have ex : am_I (am_sl (am_si (am_srL g 20 fl) 0 38 x) 0 39 w) 0 38 = x := by rw [rI_sl, pe_ieq]
    have ew : am_L (am_sl (am_si (am_srL g 20 fl) 0 38 x) 0 39 w) 0 39 = w := by rw [rLk]
    show ∃ x g', _ ∧ _ ∧ ((if T K = some (nI 1) then (if kd = 3 then some (nI 1) else (L.2 i).2.1 K) else none) = none → _) ∧ ∀ v, (if T K = some (nI 1) then (if kd = 3 then some (nI 1) else (L.2 i).2.1 K) else none) = some v → _
    cases hTK : T K with
    | none =>
      rw [if_neg (by simp)]
      have hx := q2 hTK
      subst hx
      refine ⟨nI 0, _, ?_, hfr1, fun _ => rfl, fun v hv => absurd hv (by simp)⟩
      unfold fX12_isSo
      simp (disch := first | omega | assumption | decide) only [↓pv_let, ↓pv_jn, ↓reduceIte, pv_bd, ↓pv_ocs, ↓pv_ocn, pv_gdt, pe_gd, pe_clamp, pt_eq, pf_eq, pt_le, pf_le, pt_lt, pf_lt, nI_add, nn_mul, pe_sub, pb_0, pb_1, pb_z, pe_ieq, pe_ine, pe_ik, pP_si, pS_si, pn_si, ps_si, pL_si, decide_true, ofNat_nI, pe_srI, pe_srN, pe_srS, pe_srP, not_true_eq_false, not_false_eq_true, true_and, and_true, and_self, false_and, and_false, nI_m1, nI_ms, Nat.add_sub_cancel, pl_0, pl_1, pl_2, pl_3, pl_4, pl_5, pl_6, pl_7, pl_8, pl_9, pl_10, pl_11, pl_12, pl_13, pl_14, pl_15, pl_16, pl_17, pl_18, pl_19, pl_20, pl_21, pl_22, pl_23, pl_24, pl_25, pl_26, pl_27, pl_28, pl_29, pl_30, pl_31, pl_32, pl_34, pl_36, pl_37, pl_40, pl_41, pl_42, pl_43, pl_45, pl_47, pl_48, pl_50, pl_57, pl_59, pl_60, pl_61, pl_62, pl_64, pl_70, pl_91, pl_93, pl_97, pl_98, pl_99, pl_100, pl_106, pl_122, pl_128, pl_136, pl_142, pl_165, pl_168, pl_170, pl_171, pl_173, pl_175, pl_187, pl_188, pl_189, pl_190, pl_206, pl_211, pl_219, pl_229, pl_255, pl_260, pl_400, pl_500, pl_512, pl_900, pl_999, pl_1000, pl_1001, pl_1005, pl_1020, pl_1023, pl_1024, pl_1103, pl_2000, pl_2040, pl_2176, pl_5660, pl_9999, pl_12345, pl_1000000, pl_1000003, pl_100000000, pl_1000000000, e1, e2, q, ex]
    | some v =>
      obtain ⟨q3, q4⟩ := q1 v hTK
      subst q3
      rcases (c0.2.2 T hT2).1 K v hTK with hv | hv
      · rw [hv, if_neg (by decide)]
        refine ⟨nI 0, _, ?_, hfr1, fun _ => rfl, fun v hv => absurd hv (by simp)⟩
        have hw0 : (w = 0) = True := eq_true (by rw [q4, hv]; rfl)
        unfold fX12_isSo
        simp (disch := first | omega | assumption | decide) only [↓pv_let, ↓pv_jn, ↓reduceIte, pv_bd, ↓pv_ocs, ↓pv_ocn, pv_gdt, pe_gd, pe_clamp, pt_eq, pf_eq, pt_le, pf_le, pt_lt, pf_lt, nI_add, nn_mul, pe_sub, pb_0, pb_1, pb_z, pe_ieq, pe_ine, pe_ik, pP_si, pS_si, pn_si, ps_si, pL_si, decide_true, ofNat_nI, pe_srI, pe_srN, pe_srS, pe_srP, not_true_eq_false, not_false_eq_true, true_and, and_true, and_self, false_and, and_false, nI_m1, nI_ms, Nat.add_sub_cancel, pl_0, pl_1, pl_2, pl_3, pl_4, pl_5, pl_6, pl_7, pl_8, pl_9, pl_10, pl_11, pl_12, pl_13, pl_14, pl_15, pl_16, pl_17, pl_18, pl_19, pl_20, pl_21, pl_22, pl_23, pl_24, pl_25, pl_26, pl_27, pl_28, pl_29, pl_30, pl_31, pl_32, pl_34, pl_36, pl_37, pl_40, pl_41, pl_42, pl_43, pl_45, pl_47, pl_48, pl_50, pl_57, pl_59, pl_60, pl_61, pl_62, pl_64, pl_70, pl_91, pl_93, pl_97, pl_98, pl_99, pl_100, pl_106, pl_122, pl_128, pl_136, pl_142, pl_165, pl_168, pl_170, pl_171, pl_173, pl_175, pl_187, pl_188, pl_189, pl_190, pl_206, pl_211, pl_219, pl_229, pl_255, pl_260, pl_400, pl_500, pl_512, pl_900, pl_999, pl_1000, pl_1001, pl_1005, pl_1020, pl_1023, pl_1024, pl_1103, pl_2000, pl_2040, pl_2176, pl_5660, pl_9999, pl_12345, pl_1000000, pl_1000003, pl_100000000, pl_1000000000, e1, e2, q, ex, ew, cmp_eq, hw0]
      · rw [hv, if_pos rfl]
        obtain ⟨x2, g', e, hfr, r1, r2⟩ := fin _ hfr1
        refine ⟨x2, g', ?_, hfr, r1, r2⟩
        rw [← e]
        have hw0 : (w = 0) = False := eq_false (by rw [q4, hv]; decide)
        unfold fX12_isSo
        simp (disch := first | omega | assumption | decide) only [↓pv_let, ↓pv_jn, ↓reduceIte, pv_bd, ↓pv_ocs, ↓pv_ocn, pv_gdt, pe_gd, pe_clamp, pt_eq, pf_eq, pt_le, pf_le, pt_lt, pf_lt, nI_add, nn_mul, pe_sub, pb_0, pb_1, pb_z, pe_ieq, pe_ine, pe_ik, pP_si, pS_si, pn_si, ps_si, pL_si, decide_true, ofNat_nI, pe_srI, pe_srN, pe_srS, pe_srP, not_true_eq_false, not_false_eq_true, true_and, and_true, and_self, false_and, and_false, nI_m1, nI_ms, Nat.add_sub_cancel, pl_0, pl_1, pl_2, pl_3, pl_4, pl_5, pl_6, pl_7, pl_8, pl_9, pl_10, pl_11, pl_12, pl_13, pl_14, pl_15, pl_16, pl_17, pl_18, pl_19, pl_20, pl_21, pl_22, pl_23, pl_24, pl_25, pl_26, pl_27, pl_28, pl_29, pl_30, pl_31, pl_32, pl_34, pl_36, pl_37, pl_40, pl_41, pl_42, pl_43, pl_45, pl_47, pl_48, pl_50, pl_57, pl_59, pl_60, pl_61, pl_62, pl_64, pl_70, pl_91, pl_93, pl_97, pl_98, pl_99, pl_100, pl_106, pl_122, pl_128, pl_136, pl_142, pl_165, pl_168, pl_170, pl_171, pl_173, pl_175, pl_187, pl_188, pl_189, pl_190, pl_206, pl_211, pl_219, pl_229, pl_255, pl_260, pl_400, pl_500, pl_512, pl_900, pl_999, pl_1000, pl_1001, pl_1005, pl_1020, pl_1023, pl_1024, pl_1103, pl_2000, pl_2040, pl_2176, pl_5660, pl_9999, pl_12345, pl_1000000, pl_1000003, pl_100000000, pl_1000000000, e1, e2, q, ex, ew, cmp_eq, hw0]
def toL (o : Option Int32) (w : Int64) : Int64 := (o.map Int32.toInt64).getD w
theorem tellsL {b kd : Nat} {L : pLw} {K : Nat → Int32} (hkd : kd < 4) {w : Int64} : ∀ (d i n : Nat) (g : am_G), L.1 - i = d → i ≤ L.1 → d < n → TxtR (am_I g 2) b L → LfR false g K → am_I g 0 34 = nI b → ∃ g', fX12_tells_L36 (nI kd) n (toL (lwN L.2 kd K i) w) (nI i) g = some (toL (lwN L.2 kd K L.1) w, g') ∧ FrE g g'
  | 0, i, n, g, hd, hi, hn, hT, hL, h34 => by
    obtain ⟨n, rfl⟩ : ∃ n', n = n' + 1 := ⟨n - 1, by omega⟩
    obtain rfl : i = L.1 := by omega
    have h1 := hT.1
    have h2 := hT.2.1
    refine ⟨g, ?_, FrE.rf g⟩
    rw [fX12_tells_L36]
    have h12 := hT.2.2.1
    simp (disch := first | omega | assumption | decide) only [↓pv_let, ↓pv_jn, ↓reduceIte, pv_bd, ↓pv_ocs, ↓pv_ocn, pv_gdt, pe_gd, pe_clamp, pt_eq, pf_eq, pt_le, pf_le, pt_lt, pf_lt, nI_add, nn_mul, pe_sub, pb_0, pb_1, pb_z, pe_ieq, pe_ine, pe_ik, pP_si, pS_si, pn_si, ps_si, pL_si, decide_true, ofNat_nI, pe_srI, pe_srN, pe_srS, pe_srP, not_true_eq_false, not_false_eq_true, true_and, and_true, and_self, false_and, and_false, nI_m1, nI_ms, Nat.add_sub_cancel, pl_0, pl_1, pl_2, pl_3, pl_4, pl_5, pl_6, pl_7, pl_8, pl_9, pl_10, pl_11, pl_12, pl_13, pl_14, pl_15, pl_16, pl_17, pl_18, pl_19, pl_20, pl_21, pl_22, pl_23, pl_24, pl_25, pl_26, pl_27, pl_28, pl_29, pl_30, pl_31, pl_32, pl_34, pl_36, pl_37, pl_40, pl_41, pl_42, pl_43, pl_45, pl_47, pl_48, pl_50, pl_57, pl_59, pl_60, pl_61, pl_62, pl_64, pl_70, pl_91, pl_93, pl_97, pl_98, pl_99, pl_100, pl_106, pl_122, pl_128, pl_136, pl_142, pl_165, pl_168, pl_170, pl_171, pl_173, pl_175, pl_187, pl_188, pl_189, pl_190, pl_206, pl_211, pl_219, pl_229, pl_255, pl_260, pl_400, pl_500, pl_512, pl_900, pl_999, pl_1000, pl_1001, pl_1005, pl_1020, pl_1023, pl_1024, pl_1103, pl_2000, pl_2040, pl_2176, pl_5660, pl_9999, pl_12345, pl_1000000, pl_1000003, pl_100000000, pl_1000000000, h34, h2]
  | d + 1, i, n, g, hd, hi, hn, hT, hL, h34 => by
    obtain ⟨n, rfl⟩ : ∃ n', n = n' + 1 := ⟨n - 1, by omega⟩
    have h1 := hT.1
    have h2 := hT.2.1
    have h12 := hT.2.2.1
    obtain ⟨o, r, nc, hnc, hcode, hcl⟩ := hT.2.2.2
    obtain ⟨c0, c1, -⟩ := hcl i (by omega)
    have hc0 := c0.1
    rw [fX12_tells_L36]
    by_cases hk : (L.2 i).1 = kd
    · obtain ⟨x, g1, e, hfr, r1, r2⟩ := q12_isSo hT hL h34 (show i < L.1 by omega) hk
      obtain ⟨g', e', hfr'⟩ := tellsL (L := L) hkd (w := w) d (i + 1) n g1 (by omega) (by omega) (by omega) (by rw [hfr.row (by decide)]; exact hT) (hL.fr hfr) (by rw [hfr.1 0 34 (by decide)]; exact h34)
      refine ⟨g', ?_, hfr.tr hfr'⟩
      rw [← e', lwN]
      cases hc : clv kd K (L.2 i) with
      | none =>
        have hx := r1 hc
        simp (disch := first | omega | assumption | decide) only [↓pv_let, ↓pv_jn, ↓reduceIte, pv_bd, ↓pv_ocs, ↓pv_ocn, pv_gdt, pe_gd, pe_clamp, pt_eq, pf_eq, pt_le, pf_le, pt_lt, pf_lt, nI_add, nn_mul, pe_sub, pb_0, pb_1, pb_z, pe_ieq, pe_ine, pe_ik, pP_si, pS_si, pn_si, ps_si, pL_si, decide_true, ofNat_nI, pe_srI, pe_srN, pe_srS, pe_srP, not_true_eq_false, not_false_eq_true, true_and, and_true, and_self, false_and, and_false, nI_m1, nI_ms, Nat.add_sub_cancel, pl_0, pl_1, pl_2, pl_3, pl_4, pl_5, pl_6, pl_7, pl_8, pl_9, pl_10, pl_11, pl_12, pl_13, pl_14, pl_15, pl_16, pl_17, pl_18, pl_19, pl_20, pl_21, pl_22, pl_23, pl_24, pl_25, pl_26, pl_27, pl_28, pl_29, pl_30, pl_31, pl_32, pl_34, pl_36, pl_37, pl_40, pl_41, pl_42, pl_43, pl_45, pl_47, pl_48, pl_50, pl_57, pl_59, pl_60, pl_61, pl_62, pl_64, pl_70, pl_91, pl_93, pl_97, pl_98, pl_99, pl_100, pl_106, pl_122, pl_128, pl_136, pl_142, pl_165, pl_168, pl_170, pl_171, pl_173, pl_175, pl_187, pl_188, pl_189, pl_190, pl_206, pl_211, pl_219, pl_229, pl_255, pl_260, pl_400, pl_500, pl_512, pl_900, pl_999, pl_1000, pl_1001, pl_1005, pl_1020, pl_1023, pl_1024, pl_1103, pl_2000, pl_2040, pl_2176, pl_5660, pl_9999, pl_12345, pl_1000000, pl_1000003, pl_100000000, pl_1000000000, h34, h2, c1, hk, e, hx, Option.none_or]
      | some v =>
        obtain ⟨hx, h40⟩ := r2 v hc
        by_cases h3 : kd = 3
        · have hv : v = nI 1 := by
            unfold clv at hc
            rw [if_pos hk, if_pos h3] at hc
            split at hc
            · exact (Option.some.inj hc).symm
            · split at hc
              · exact (Option.some.inj hc).symm
              · exact absurd hc (by simp)
          subst h3
          have ev : toL ((some v).or (lwN L.2 3 K i)) w = 1 := by rw [hv]; rfl
          simp (disch := first | omega | assumption | decide) only [↓pv_let, ↓pv_jn, ↓reduceIte, pv_bd, ↓pv_ocs, ↓pv_ocn, pv_gdt, pe_gd, pe_clamp, pt_eq, pf_eq, pt_le, pf_le, pt_lt, pf_lt, nI_add, nn_mul, pe_sub, pb_0, pb_1, pb_z, pe_ieq, pe_ine, pe_ik, pP_si, pS_si, pn_si, ps_si, pL_si, decide_true, ofNat_nI, pe_srI, pe_srN, pe_srS, pe_srP, not_true_eq_false, not_false_eq_true, true_and, and_true, and_self, false_and, and_false, nI_m1, nI_ms, Nat.add_sub_cancel, pl_0, pl_1, pl_2, pl_3, pl_4, pl_5, pl_6, pl_7, pl_8, pl_9, pl_10, pl_11, pl_12, pl_13, pl_14, pl_15, pl_16, pl_17, pl_18, pl_19, pl_20, pl_21, pl_22, pl_23, pl_24, pl_25, pl_26, pl_27, pl_28, pl_29, pl_30, pl_31, pl_32, pl_34, pl_36, pl_37, pl_40, pl_41, pl_42, pl_43, pl_45, pl_47, pl_48, pl_50, pl_57, pl_59, pl_60, pl_61, pl_62, pl_64, pl_70, pl_91, pl_93, pl_97, pl_98, pl_99, pl_100, pl_106, pl_122, pl_128, pl_136, pl_142, pl_165, pl_168, pl_170, pl_171, pl_173, pl_175, pl_187, pl_188, pl_189, pl_190, pl_206, pl_211, pl_219, pl_229, pl_255, pl_260, pl_400, pl_500, pl_512, pl_900, pl_999, pl_1000, pl_1001, pl_1005, pl_1020, pl_1023, pl_1024, pl_1103, pl_2000, pl_2040, pl_2176, pl_5660, pl_9999, pl_12345, pl_1000000, pl_1000003, pl_100000000, pl_1000000000, h34, h2, c1, hk, e, hx, ev]
        · have ev : toL ((some v).or (lwN L.2 kd K i)) w = v.toInt64 := rfl
          have h40 := h40 h3
          simp (disch := first | omega | assumption | decide) only [↓pv_let, ↓pv_jn, ↓reduceIte, pv_bd, ↓pv_ocs, ↓pv_ocn, pv_gdt, pe_gd, pe_clamp, pt_eq, pf_eq, pt_le, pf_le, pt_lt, pf_lt, nI_add, nn_mul, pe_sub, pb_0, pb_1, pb_z, pe_ieq, pe_ine, pe_ik, pP_si, pS_si, pn_si, ps_si, pL_si, decide_true, ofNat_nI, pe_srI, pe_srN, pe_srS, pe_srP, not_true_eq_false, not_false_eq_true, true_and, and_true, and_self, false_and, and_false, nI_m1, nI_ms, Nat.add_sub_cancel, pl_0, pl_1, pl_2, pl_3, pl_4, pl_5, pl_6, pl_7, pl_8, pl_9, pl_10, pl_11, pl_12, pl_13, pl_14, pl_15, pl_16, pl_17, pl_18, pl_19, pl_20, pl_21, pl_22, pl_23, pl_24, pl_25, pl_26, pl_27, pl_28, pl_29, pl_30, pl_31, pl_32, pl_34, pl_36, pl_37, pl_40, pl_41, pl_42, pl_43, pl_45, pl_47, pl_48, pl_50, pl_57, pl_59, pl_60, pl_61, pl_62, pl_64, pl_70, pl_91, pl_93, pl_97, pl_98, pl_99, pl_100, pl_106, pl_122, pl_128, pl_136, pl_142, pl_165, pl_168, pl_170, pl_171, pl_173, pl_175, pl_187, pl_188, pl_189, pl_190, pl_206, pl_211, pl_219, pl_229, pl_255, pl_260, pl_400, pl_500, pl_512, pl_900, pl_999, pl_1000, pl_1001, pl_1005, pl_1020, pl_1023, pl_1024, pl_1103, pl_2000, pl_2040, pl_2176, pl_5660, pl_9999, pl_12345, pl_1000000, pl_1000003, pl_100000000, pl_1000000000, h34, h2, c1, hk, e, hx, ev, h40]
    · obtain ⟨g', e', hfr'⟩ := tellsL (L := L) hkd (w := w) d (i + 1) n g (by omega) (by omega) (by omega) hT hL h34
      refine ⟨g', ?_, hfr'⟩
      have ec : clv kd K (L.2 i) = none := by unfold clv; rw [if_neg hk]
      rw [← e', lwN, ec, Option.none_or]
      simp (disch := first | omega | assumption | decide) only [↓pv_let, ↓pv_jn, ↓reduceIte, pv_bd, ↓pv_ocs, ↓pv_ocn, pv_gdt, pe_gd, pe_clamp, pt_eq, pf_eq, pt_le, pf_le, pt_lt, pf_lt, nI_add, nn_mul, pe_sub, pb_0, pb_1, pb_z, pe_ieq, pe_ine, pe_ik, pP_si, pS_si, pn_si, ps_si, pL_si, decide_true, ofNat_nI, pe_srI, pe_srN, pe_srS, pe_srP, not_true_eq_false, not_false_eq_true, true_and, and_true, and_self, false_and, and_false, nI_m1, nI_ms, Nat.add_sub_cancel, pl_0, pl_1, pl_2, pl_3, pl_4, pl_5, pl_6, pl_7, pl_8, pl_9, pl_10, pl_11, pl_12, pl_13, pl_14, pl_15, pl_16, pl_17, pl_18, pl_19, pl_20, pl_21, pl_22, pl_23, pl_24, pl_25, pl_26, pl_27, pl_28, pl_29, pl_30, pl_31, pl_32, pl_34, pl_36, pl_37, pl_40, pl_41, pl_42, pl_43, pl_45, pl_47, pl_48, pl_50, pl_57, pl_59, pl_60, pl_61, pl_62, pl_64, pl_70, pl_91, pl_93, pl_97, pl_98, pl_99, pl_100, pl_106, pl_122, pl_128, pl_136, pl_142, pl_165, pl_168, pl_170, pl_171, pl_173, pl_175, pl_187, pl_188, pl_189, pl_190, pl_206, pl_211, pl_219, pl_229, pl_255, pl_260, pl_400, pl_500, pl_512, pl_900, pl_999, pl_1000, pl_1001, pl_1005, pl_1020, pl_1023, pl_1024, pl_1103, pl_2000, pl_2040, pl_2176, pl_5660, pl_9999, pl_12345, pl_1000000, pl_1000003, pl_100000000, pl_1000000000, h34, h2, c1, hk]
/-- the law in force in the reference -/
def LawR (ρ : Nat → Int32) (q : Option pLw) : Prop := (ρ 5 = -1 ∧ q = none) ∨ ∃ f L, f < 6 ∧ ρ 5 = nI f ∧ TxtR ρ (260 + 900 * f) L ∧ q = some L
def tlv (q : Option pLw) (kd : Nat) (K : Nat → Int32) : Option Int32 := match q with
  | none => none
  | some L => lwN L.2 kd K L.1
theorem q12_tells {g : am_G} {kd : Nat} {q : Option pLw} {K : Nat → Int32} (hq : LawR (am_I g 2) q) (hL : LfR false g K) (hkd : kd < 4) (w : Int64) : ∃ g', fX12_tells (nI kd) w g = some (toL (tlv q kd K) w, g') ∧ FrS g g' := by
  rcases hq with ⟨h5, rfl⟩ | ⟨f, L, hf, h5, hT, rfl⟩
  · refine ⟨g, ?_, FrS.rf g⟩
    unfold fX12_tells
    simp (disch := first | omega | assumption | decide) only [↓pv_let, ↓pv_jn, ↓reduceIte, pv_bd, ↓pv_ocs, ↓pv_ocn, pv_gdt, pe_gd, pe_clamp, pt_eq, pf_eq, pt_le, pf_le, pt_lt, pf_lt, nI_add, nn_mul, pe_sub, pb_0, pb_1, pb_z, pe_ieq, pe_ine, pe_ik, pP_si, pS_si, pn_si, ps_si, pL_si, decide_true, ofNat_nI, pe_srI, pe_srN, pe_srS, pe_srP, not_true_eq_false, not_false_eq_true, true_and, and_true, and_self, false_and, and_false, nI_m1, nI_ms, Nat.add_sub_cancel, pl_0, pl_1, pl_2, pl_3, pl_4, pl_5, pl_6, pl_7, pl_8, pl_9, pl_10, pl_11, pl_12, pl_13, pl_14, pl_15, pl_16, pl_17, pl_18, pl_19, pl_20, pl_21, pl_22, pl_23, pl_24, pl_25, pl_26, pl_27, pl_28, pl_29, pl_30, pl_31, pl_32, pl_34, pl_36, pl_37, pl_40, pl_41, pl_42, pl_43, pl_45, pl_47, pl_48, pl_50, pl_57, pl_59, pl_60, pl_61, pl_62, pl_64, pl_70, pl_91, pl_93, pl_97, pl_98, pl_99, pl_100, pl_106, pl_122, pl_128, pl_136, pl_142, pl_165, pl_168, pl_170, pl_171, pl_173, pl_175, pl_187, pl_188, pl_189, pl_190, pl_206, pl_211, pl_219, pl_229, pl_255, pl_260, pl_400, pl_500, pl_512, pl_900, pl_999, pl_1000, pl_1001, pl_1005, pl_1020, pl_1023, pl_1024, pl_1103, pl_2000, pl_2040, pl_2176, pl_5660, pl_9999, pl_12345, pl_1000000, pl_1000003, pl_100000000, pl_1000000000, h5]
    rfl
  · have hs : FrS g (am_si g 0 34 (nI (260 + 900 * f))) := by
      refine ⟨fun a k h => ?_, fun a k _ _ _ => rfl, rfl⟩
      rw [pI_si, if_neg (fun z => h ⟨z.1, Or.inl z.2⟩)]
    obtain ⟨g', e, hfr⟩ := tellsL (b := 260 + 900 * f) (L := L) (K := K) hkd (w := w) L.1 0 am_fu (am_si g 0 34 (nI (260 + 900 * f))) (by omega) (by omega) (by have : am_fu = 1048576 := rfl; have := hT.2.2.1; omega) (by rw [pI_si_ne _ _ _ (by decide)]; exact hT) ⟨fun z => ⟨by rw [pe_ik (by decide)]; exact (hL.1 z).1, (hL.1 z).2⟩, fun z => absurd z (by decide)⟩ (pe_ieq _ _ _ _)
    refine ⟨g', ?_, hs.tr hfr.S⟩
    show _ = some (toL (lwN L.2 kd K L.1) w, g')
    rw [← e]
    unfold fX12_tells
    have hn1 : (nI f = -nI 1) = False := nI_neg1 (by omega)
    simp (disch := first | omega | assumption | decide) only [↓pv_let, ↓pv_jn, ↓reduceIte, pv_bd, ↓pv_ocs, ↓pv_ocn, pv_gdt, pe_gd, pe_clamp, pt_eq, pf_eq, pt_le, pf_le, pt_lt, pf_lt, nI_add, nn_mul, pe_sub, pb_0, pb_1, pb_z, pe_ieq, pe_ine, pe_ik, pP_si, pS_si, pn_si, ps_si, pL_si, decide_true, ofNat_nI, pe_srI, pe_srN, pe_srS, pe_srP, not_true_eq_false, not_false_eq_true, true_and, and_true, and_self, false_and, and_false, nI_m1, nI_ms, Nat.add_sub_cancel, pl_0, pl_1, pl_2, pl_3, pl_4, pl_5, pl_6, pl_7, pl_8, pl_9, pl_10, pl_11, pl_12, pl_13, pl_14, pl_15, pl_16, pl_17, pl_18, pl_19, pl_20, pl_21, pl_22, pl_23, pl_24, pl_25, pl_26, pl_27, pl_28, pl_29, pl_30, pl_31, pl_32, pl_34, pl_36, pl_37, pl_40, pl_41, pl_42, pl_43, pl_45, pl_47, pl_48, pl_50, pl_57, pl_59, pl_60, pl_61, pl_62, pl_64, pl_70, pl_91, pl_93, pl_97, pl_98, pl_99, pl_100, pl_106, pl_122, pl_128, pl_136, pl_142, pl_165, pl_168, pl_170, pl_171, pl_173, pl_175, pl_187, pl_188, pl_189, pl_190, pl_206, pl_211, pl_219, pl_229, pl_255, pl_260, pl_400, pl_500, pl_512, pl_900, pl_999, pl_1000, pl_1001, pl_1005, pl_1020, pl_1023, pl_1024, pl_1103, pl_2000, pl_2040, pl_2176, pl_5660, pl_9999, pl_12345, pl_1000000, pl_1000003, pl_100000000, pl_1000000000, h5, hn1]
    rfl

/-! ===== the reference reads on ===== -/
def FrP (g g' : am_G) : Prop := (∀ a k, ¬ (11 ≤ a ∧ a ≤ 14) → ¬ (a = 0 ∧ ((14 ≤ k ∧ k ≤ 16) ∨ k = 18 ∨ k = 19 ∨ k = 23 ∨ k = 26 ∨ k = 29 ∨ k = 30)) → am_I g' a k = am_I g a k) ∧ (∀ a k, ¬ (a = 0 ∧ k = 17) → am_L g' a k = am_L g a k) ∧ g'.2.2 = g.2.2
theorem FrP.rf (g : am_G) : FrP g g := ⟨fun _ _ _ _ => rfl, fun _ _ _ => rfl, rfl⟩
theorem FrP.tr {g h i : am_G} (h1 : FrP g h) (h2 : FrP h i) : FrP g i := ⟨fun a k x y => (h2.1 a k x y).trans (h1.1 a k x y), fun a k x => (h2.2.1 a k x).trans (h1.2.1 a k x), h2.2.2.trans h1.2.2⟩
theorem FrN.P {g h : am_G} (h1 : FrN g h) : FrP g h := ⟨fun a k x y => h1.1 a k (fun z => y ⟨z.1, Or.inl z.2⟩), h1.2.1, h1.2.2⟩
theorem FrZ.P {g h : am_G} (h1 : FrZ g h) : FrP g h := ⟨fun a k x y => h1.2 a k x (fun z => y ⟨z.1, by omega⟩), fun a k _ => by show am_L h a k = am_L g a k; rw [show am_L h = am_L g from congrArg (fun z => z.1) h1.1], congrArg (fun z => z.2) h1.1⟩
theorem FrP.si {g h : am_G} (h1 : FrP g h) {a k : Nat} (ha : (11 ≤ a ∧ a ≤ 14) ∨ (a = 0 ∧ ((14 ≤ k ∧ k ≤ 16) ∨ k = 18 ∨ k = 19 ∨ k = 23 ∨ k = 26 ∨ k = 29 ∨ k = 30))) (x : Int32) : FrP g (am_si h a k x) := ⟨fun b j y z => by rw [pI_si, if_neg (fun w => by omega)]; exact h1.1 b j y z, h1.2.1, h1.2.2⟩
def tN (b : Bool) : Nat := if b then 1 else 0
def RS (md : Bool) (b : Nat → Nat) (len h : Nat) (X : Cd) (nl op : Nat) (pi : List (Nat × Nat)) (g : am_G) : Prop := Lx b len h g ∧ SP X pi g ∧ am_I g 0 19 = nI 0 ∧ am_I g 0 26 = nI nl ∧ am_I g 0 30 = nI op ∧ am_I g 0 20 = nI (tN md) ∧ am_L g 15 = am_L am_gr 15 ∧ am_L g 16 = am_L am_gr 16 ∧ am_I g 0 18 = -1
/-- a tape -/
def Tp (b : Nat → Nat) (len : Nat) : Prop := len ≤ 400 ∧ ∀ i, i < len → b i < 256
theorem TkS.cg {g g' : am_G} {c : Nat} (h : TkS g c) (e : am_I g' 0 16 = am_I g 0 16) (e' : am_L g' 0 17 = am_L g 0 17) : TkS g' c := by
  unfold TkS at h ⊢
  rw [e, e']
  exact h
theorem Lx.cg {b : Nat → Nat} {len h : Nat} {g g' : am_G} (hl : Lx b len h g) (e0 : ∀ k, 13 ≤ k → k ≤ 16 → am_I g' 0 k = am_I g 0 k) (e9 : ∀ k, am_I g' 9 k = am_I g 9 k) (eL : am_L g' 0 17 = am_L g 0 17) : Lx b len h g' :=
  ⟨by rw [e0 13 (by decide) (by decide)]; exact hl.1, fun i hi => by rw [e9]; exact hl.2.1 i hi, by rw [e0 14 (by decide) (by decide)]; exact hl.2.2.1, by rw [e0 15 (by decide) (by decide)]; exact hl.2.2.2.1, hl.2.2.2.2.cg (e0 16 (by decide) (by decide)) eL⟩
theorem RS.z {md : Bool} {b : Nat → Nat} {len h nl op : Nat} {X X' : Cd} {pi pi' : List (Nat × Nat)} {g g' : am_G} (hr : RS md b len h X nl op pi g) (hf : FrZ g g') (hs : SP X' pi' g') : RS md b len h X' nl op pi' g' := by
  obtain ⟨h1, h2, h3, h4, h5, h6, h7, h8⟩ := hr
  have eL : am_L g' = am_L g := congrArg (fun z => z.1) hf.1
  exact ⟨h1.cg (fun k _ _ => hf.2 0 k (by omega) (by omega)) (fun k => hf.2 9 k (by omega) (by omega)) (by rw [eL]), hs, by rw [hf.2 0 19 (by omega) (by omega)]; exact h3, by rw [hf.2 0 26 (by omega) (by omega)]; exact h4, by rw [hf.2 0 30 (by omega) (by omega)]; exact h5, by rw [hf.2 0 20 (by omega) (by omega)]; exact h6, by rw [eL]; exact h7, by rw [eL]; exact h8.1, by rw [hf.2 0 18 (by omega) (by omega)]; exact h8.2⟩
theorem SP.cg {X : Cd} {pi : List (Nat × Nat)} {g g' : am_G} (h : SP X pi g) (e0 : am_I g' 0 23 = am_I g 0 23) (e1 : am_I g' 0 29 = am_I g 0 29) (e : ∀ a k, 11 ≤ a → a ≤ 14 → am_I g' a k = am_I g a k) : SP X pi g' := by
  obtain ⟨h1, h2, h3, h4, h5⟩ := h
  exact ⟨by rw [e0]; exact h1, fun i hi => by rw [e 11 i (by decide) (by decide), e 12 i (by decide) (by decide)]; exact h2 i hi, by rw [e1]; exact h3, h4.cg (fun j _ => ⟨e 13 j (by decide) (by decide), e 14 j (by decide) (by decide)⟩), h5⟩
/-- the next token -/
theorem RS.nx {md : Bool} {b : Nat → Nat} {len h nl op : Nat} {X : Cd} {pi : List (Nat × Nat)} {g : am_G} (hT : Tp b len) (hr : RS md b len h X nl op pi g) : ∃ g', fX12_next g = some ((), g') ∧ RS md b len (h + 1) X nl op pi g' ∧ FrN g g' := by
  obtain ⟨h1, h2, h3, h4, h5, h6, h7, h8⟩ := hr
  obtain ⟨g', e1, e2, e3⟩ := h1.next hT.1 hT.2
  refine ⟨g', e1, ⟨e2, h2.cg (e3.1 0 23 (by omega)) (e3.1 0 29 (by omega)) (fun a k _ _ => e3.1 a k (by omega)), by rw [e3.1 0 19 (by omega)]; exact h3, by rw [e3.1 0 26 (by omega)]; exact h4, by rw [e3.1 0 30 (by omega)]; exact h5, by rw [e3.1 0 20 (by omega)]; exact h6, ?_, ?_, by rw [e3.1 0 18 (by omega)]; exact h8.2⟩, e3⟩
  · rw [← h7]; exact funext fun k => e3.2.1 15 k (by omega)
  · rw [← h8.1]; exact funext fun k => e3.2.1 16 k (by omega)
theorem q12_mustT {md : Bool} {b : Nat → Nat} {len h nl op : Nat} {X : Cd} {pi : List (Nat × Nat)} {g : am_G} (hT : Tp b len) (hr : RS md b len h X nl op pi g) : ∃ g', fX12_must (nI 1) g = some ((), g') ∧ RS md b len (h + 1) X nl op pi g' ∧ FrN g g' := by
  obtain ⟨g', e1, e2⟩ := hr.nx hT
  have h19 := hr.2.2.1
  refine ⟨g', ?_, e2⟩
  unfold fX12_must
  simp (disch := first | omega | assumption | decide) only [↓pv_let, ↓pv_jn, ↓reduceIte, pv_bd, ↓pv_ocs, ↓pv_ocn, pv_gdt, pe_gd, pe_clamp, pt_eq, pf_eq, pt_le, pf_le, pt_lt, pf_lt, nI_add, nn_mul, pe_sub, pb_0, pb_1, pb_z, pe_ieq, pe_ine, pe_ik, pP_si, pS_si, pn_si, ps_si, pL_si, decide_true, ofNat_nI, pe_srI, pe_srN, pe_srS, pe_srP, not_true_eq_false, not_false_eq_true, true_and, and_true, and_self, false_and, and_false, nI_m1, nI_ms, Nat.add_sub_cancel, pl_0, pl_1, pl_2, pl_3, pl_4, pl_5, pl_6, pl_7, pl_8, pl_9, pl_10, pl_11, pl_12, pl_13, pl_14, pl_15, pl_16, pl_17, pl_18, pl_19, pl_20, pl_21, pl_22, pl_23, pl_24, pl_25, pl_26, pl_27, pl_28, pl_29, pl_30, pl_31, pl_32, pl_34, pl_36, pl_37, pl_40, pl_41, pl_42, pl_43, pl_45, pl_47, pl_48, pl_50, pl_57, pl_59, pl_60, pl_61, pl_62, pl_64, pl_70, pl_91, pl_93, pl_97, pl_98, pl_99, pl_100, pl_106, pl_122, pl_128, pl_136, pl_142, pl_165, pl_168, pl_170, pl_171, pl_173, pl_175, pl_187, pl_188, pl_189, pl_190, pl_206, pl_211, pl_219, pl_229, pl_255, pl_260, pl_400, pl_500, pl_512, pl_900, pl_999, pl_1000, pl_1001, pl_1005, pl_1020, pl_1023, pl_1024, pl_1103, pl_2000, pl_2040, pl_2176, pl_5660, pl_9999, pl_12345, pl_1000000, pl_1000003, pl_100000000, pl_1000000000, pz_0, pz_1, pz_t, h19, e1]
/-- a fault was found at token h -/
def FB (b : Nat → Nat) (len h : Nat) (g : am_G) : Prop := am_I g 0 19 = nI 1 ∧ am_I g 0 18 = nI (plF b len h) ∧ ∃ X pi, SP X pi g
theorem q12_mustF {md : Bool} {b : Nat → Nat} {len h nl op : Nat} {X : Cd} {pi : List (Nat × Nat)} {g : am_G} (hr : RS md b len h X nl op pi g) : ∃ g', fX12_must (nI 0) g = some ((), g') ∧ FB b len h g' ∧ FrP g g' ∧ am_I g' 0 20 = am_I g 0 20 ∧ am_I g' 0 23 = am_I g 0 23 := by
  have h19 := hr.2.2.1
  have h14 := hr.1.2.2.1
  refine ⟨am_si (am_si g 0 19 (nI 1)) 0 18 (nI (plF b len h)), ?_, ⟨by rw [pe_ik (by decide), pe_ieq], pe_ieq _ _ _ _, X, pi, hr.2.1.cg (by rw [pe_ik (by decide), pe_ik (by decide)]) (by rw [pe_ik (by decide), pe_ik (by decide)]) (fun a k h1 h2 => by rw [pe_ine (by omega), pe_ine (by omega)])⟩, ((FrP.rf g).si (by omega) _).si (by omega) _, by rw [pe_ik (by decide), pe_ik (by decide)], by rw [pe_ik (by decide), pe_ik (by decide)]⟩
  unfold fX12_must
  simp (disch := first | omega | assumption | decide) only [↓pv_let, ↓pv_jn, ↓reduceIte, pv_bd, ↓pv_ocs, ↓pv_ocn, pv_gdt, pe_gd, pe_clamp, pt_eq, pf_eq, pt_le, pf_le, pt_lt, pf_lt, nI_add, nn_mul, pe_sub, pb_0, pb_1, pb_z, pe_ieq, pe_ine, pe_ik, pP_si, pS_si, pn_si, ps_si, pL_si, decide_true, ofNat_nI, pe_srI, pe_srN, pe_srS, pe_srP, not_true_eq_false, not_false_eq_true, true_and, and_true, and_self, false_and, and_false, nI_m1, nI_ms, Nat.add_sub_cancel, pl_0, pl_1, pl_2, pl_3, pl_4, pl_5, pl_6, pl_7, pl_8, pl_9, pl_10, pl_11, pl_12, pl_13, pl_14, pl_15, pl_16, pl_17, pl_18, pl_19, pl_20, pl_21, pl_22, pl_23, pl_24, pl_25, pl_26, pl_27, pl_28, pl_29, pl_30, pl_31, pl_32, pl_34, pl_36, pl_37, pl_40, pl_41, pl_42, pl_43, pl_45, pl_47, pl_48, pl_50, pl_57, pl_59, pl_60, pl_61, pl_62, pl_64, pl_70, pl_91, pl_93, pl_97, pl_98, pl_99, pl_100, pl_106, pl_122, pl_128, pl_136, pl_142, pl_165, pl_168, pl_170, pl_171, pl_173, pl_175, pl_187, pl_188, pl_189, pl_190, pl_206, pl_211, pl_219, pl_229, pl_255, pl_260, pl_400, pl_500, pl_512, pl_900, pl_999, pl_1000, pl_1001, pl_1005, pl_1020, pl_1023, pl_1024, pl_1103, pl_2000, pl_2040, pl_2176, pl_5660, pl_9999, pl_12345, pl_1000000, pl_1000003, pl_100000000, pl_1000000000, pz_0, pz_1, pz_t, h19, h14]
theorem pile_cut (lv : Nat) : ∀ pi : List (Nat × Nat), ∃ pend base, pi = pend ++ base ∧ (∀ q ∈ pend, lv ≤ bnd q.1) ∧ tb base lv
  | [] => ⟨[], [], rfl, (by intro q hq; cases hq), (by intro q l e; cases e)⟩
  | q :: pi => by
    obtain ⟨p, bs, e, h1, h2⟩ := pile_cut lv pi
    by_cases h : lv ≤ bnd q.1
    · refine ⟨q :: p, bs, by rw [e]; rfl, fun q' hq' => ?_, h2⟩
      rcases List.mem_cons.mp hq' with rfl | hq'
      · exact h
      · exact h1 q' hq'
    · refine ⟨[], q :: pi, rfl, (by intro q hq; cases hq), ?_⟩
      intro q' l e'
      injection e' with e1 e2
      rw [← e1]
      omega
theorem FB.end {b : Nat → Nat} {len h : Nat} {g : am_G} (hB : FB b len h g) : ∃ g', fX12_settle (nI 1) g = some ((), g') ∧ FB b len h g' ∧ FrZ g g' := by
  obtain ⟨h1, h2, X, pi, h3⟩ := hB
  obtain ⟨pend, base, rfl, p1, p2⟩ := pile_cut 1 pi
  obtain ⟨g', e1, e2, e3⟩ := q12_settle (lv := 1) (by decide) (by decide) p2 h3 p1
  exact ⟨g', e1, ⟨by rw [e3.2 0 19 (by omega) (by omega)]; exact h1, by rw [e3.2 0 18 (by omega) (by omega)]; exact h2, _, _, e2⟩, e3⟩
/-! parts -/
def ixL (c : Nat) : Int32 := if c = 20 then nI 10 else if c = 22 then nI 9 else if c = 21 then nI 8 else if c = 19 then nI 7 else if c = 18 then nI 6 else if c = 17 then nI 5 else if c = 13 then nI 4 else if c = 16 then nI 3 else if c = 15 then nI 2 else if c = 14 then nI 1 else -nI 1
def ixO (c : Nat) : Int32 := if c = 27 then nI 7 else if c = 21 then nI 6 else if c = 26 then nI 5 else if c = 25 then nI 4 else if c = 24 then nI 3 else if c = 23 then nI 2 else if c = 22 then nI 1 else -nI 1
theorem L15 : ∀ k, k < 10 → am_L am_gr 15 k = wcd (tkL (k + 1)) := by decide +kernel
def tkO (k : Nat) : Nat := if k = 1 then 22 else if k = 2 then 23 else if k = 3 then 24 else if k = 4 then 25 else if k = 5 then 26 else if k = 6 then 21 else 27
theorem L16 : ∀ k, k < 7 → am_L am_gr 16 k = wcd (tkO (k + 1)) := by decide +kernel
theorem tkL_rg : ∀ k, k < 10 → 1 ≤ tkL (k + 1) ∧ tkL (k + 1) ≤ 27 := by decide
theorem tkO_rg : ∀ k, k < 7 → 1 ≤ tkO (k + 1) ∧ tkO (k + 1) ≤ 27 := by decide
def pwL (c : Nat) (f : Nat → Nat) : Nat → Int32
  | 0 => -nI 1
  | k + 1 => if c = f (k + 1) then nI (k + 1) else pwL c f k
theorem partL {g : am_G} {c : Nat} (h : TkS g c) (hL : am_L g 15 = am_L am_gr 15) : ∀ (d i n : Nat), i + d = 10 → d < n → fX12_partAt_L4 n (pwL c tkL i) (nI i) g = some (pwL c tkL 10, g)
  | 0, i, n, hd, hn => by
    obtain ⟨n, rfl⟩ : ∃ m, n = m + 1 := ⟨n - 1, by omega⟩
    obtain rfl : i = 10 := by omega
    rw [fX12_partAt_L4]
    simp (disch := first | omega | assumption | decide) only [↓pv_let, ↓pv_jn, ↓reduceIte, pv_bd, ↓pv_ocs, ↓pv_ocn, pv_gdt, pe_gd, pe_clamp, pt_eq, pf_eq, pt_le, pf_le, pt_lt, pf_lt, nI_add, nn_mul, pe_sub, pb_0, pb_1, pb_z, pe_ieq, pe_ine, pe_ik, pP_si, pS_si, pn_si, ps_si, pL_si, decide_true, ofNat_nI, pe_srI, pe_srN, pe_srS, pe_srP, not_true_eq_false, not_false_eq_true, true_and, and_true, and_self, false_and, and_false, nI_m1, nI_ms, Nat.add_sub_cancel, pl_0, pl_1, pl_2, pl_3, pl_4, pl_5, pl_6, pl_7, pl_8, pl_9, pl_10, pl_11, pl_12, pl_13, pl_14, pl_15, pl_16, pl_17, pl_18, pl_19, pl_20, pl_21, pl_22, pl_23, pl_24, pl_25, pl_26, pl_27, pl_28, pl_29, pl_30, pl_31, pl_32, pl_34, pl_36, pl_37, pl_40, pl_41, pl_42, pl_43, pl_45, pl_47, pl_48, pl_50, pl_57, pl_59, pl_60, pl_61, pl_62, pl_64, pl_70, pl_91, pl_93, pl_97, pl_98, pl_99, pl_100, pl_106, pl_122, pl_128, pl_136, pl_142, pl_165, pl_168, pl_170, pl_171, pl_173, pl_175, pl_187, pl_188, pl_189, pl_190, pl_206, pl_211, pl_219, pl_229, pl_255, pl_260, pl_400, pl_500, pl_512, pl_900, pl_999, pl_1000, pl_1001, pl_1005, pl_1020, pl_1023, pl_1024, pl_1103, pl_2000, pl_2040, pl_2176, pl_5660, pl_9999, pl_12345, pl_1000000, pl_1000003, pl_100000000, pl_1000000000, pz_0, pz_1, pz_t]
  | d + 1, i, n, hd, hn => by
    obtain ⟨n, rfl⟩ : ∃ m, n = m + 1 := ⟨n - 1, by omega⟩
    have IH := partL h hL d (i + 1) n (by omega) (by omega)
    have hw := q12_isWordT h (tkL_rg i (by omega)).1 (tkL_rg i (by omega)).2
    rw [← L15 i (by omega), ← hL] at hw
    rw [← IH, fX12_partAt_L4]
    by_cases e : c = tkL (i + 1)
    · simp (disch := first | omega | assumption | decide) only [↓pv_let, ↓pv_jn, ↓reduceIte, pv_bd, ↓pv_ocs, ↓pv_ocn, pv_gdt, pe_gd, pe_clamp, pt_eq, pf_eq, pt_le, pf_le, pt_lt, pf_lt, nI_add, nn_mul, pe_sub, pb_0, pb_1, pb_z, pe_ieq, pe_ine, pe_ik, pP_si, pS_si, pn_si, ps_si, pL_si, decide_true, ofNat_nI, pe_srI, pe_srN, pe_srS, pe_srP, not_true_eq_false, not_false_eq_true, true_and, and_true, and_self, false_and, and_false, nI_m1, nI_ms, Nat.add_sub_cancel, pl_0, pl_1, pl_2, pl_3, pl_4, pl_5, pl_6, pl_7, pl_8, pl_9, pl_10, pl_11, pl_12, pl_13, pl_14, pl_15, pl_16, pl_17, pl_18, pl_19, pl_20, pl_21, pl_22, pl_23, pl_24, pl_25, pl_26, pl_27, pl_28, pl_29, pl_30, pl_31, pl_32, pl_34, pl_36, pl_37, pl_40, pl_41, pl_42, pl_43, pl_45, pl_47, pl_48, pl_50, pl_57, pl_59, pl_60, pl_61, pl_62, pl_64, pl_70, pl_91, pl_93, pl_97, pl_98, pl_99, pl_100, pl_106, pl_122, pl_128, pl_136, pl_142, pl_165, pl_168, pl_170, pl_171, pl_173, pl_175, pl_187, pl_188, pl_189, pl_190, pl_206, pl_211, pl_219, pl_229, pl_255, pl_260, pl_400, pl_500, pl_512, pl_900, pl_999, pl_1000, pl_1001, pl_1005, pl_1020, pl_1023, pl_1024, pl_1103, pl_2000, pl_2040, pl_2176, pl_5660, pl_9999, pl_12345, pl_1000000, pl_1000003, pl_100000000, pl_1000000000, pz_0, pz_1, pz_t, hw, pwL, e]
    · simp (disch := first | omega | assumption | decide) only [↓pv_let, ↓pv_jn, ↓reduceIte, pv_bd, ↓pv_ocs, ↓pv_ocn, pv_gdt, pe_gd, pe_clamp, pt_eq, pf_eq, pt_le, pf_le, pt_lt, pf_lt, nI_add, nn_mul, pe_sub, pb_0, pb_1, pb_z, pe_ieq, pe_ine, pe_ik, pP_si, pS_si, pn_si, ps_si, pL_si, decide_true, ofNat_nI, pe_srI, pe_srN, pe_srS, pe_srP, not_true_eq_false, not_false_eq_true, true_and, and_true, and_self, false_and, and_false, nI_m1, nI_ms, Nat.add_sub_cancel, pl_0, pl_1, pl_2, pl_3, pl_4, pl_5, pl_6, pl_7, pl_8, pl_9, pl_10, pl_11, pl_12, pl_13, pl_14, pl_15, pl_16, pl_17, pl_18, pl_19, pl_20, pl_21, pl_22, pl_23, pl_24, pl_25, pl_26, pl_27, pl_28, pl_29, pl_30, pl_31, pl_32, pl_34, pl_36, pl_37, pl_40, pl_41, pl_42, pl_43, pl_45, pl_47, pl_48, pl_50, pl_57, pl_59, pl_60, pl_61, pl_62, pl_64, pl_70, pl_91, pl_93, pl_97, pl_98, pl_99, pl_100, pl_106, pl_122, pl_128, pl_136, pl_142, pl_165, pl_168, pl_170, pl_171, pl_173, pl_175, pl_187, pl_188, pl_189, pl_190, pl_206, pl_211, pl_219, pl_229, pl_255, pl_260, pl_400, pl_500, pl_512, pl_900, pl_999, pl_1000, pl_1001, pl_1005, pl_1020, pl_1023, pl_1024, pl_1103, pl_2000, pl_2040, pl_2176, pl_5660, pl_9999, pl_12345, pl_1000000, pl_1000003, pl_100000000, pl_1000000000, pz_0, pz_1, pz_t, hw, pwL, e]
theorem orderL {g : am_G} {c : Nat} (h : TkS g c) (hL : am_L g 16 = am_L am_gr 16) : ∀ (d i n : Nat), i + d = 7 → d < n → fX12_orderPartAt_L4 n (pwL c tkO i) (nI i) g = some (pwL c tkO 7, g)
  | 0, i, n, hd, hn => by
    obtain ⟨n, rfl⟩ : ∃ m, n = m + 1 := ⟨n - 1, by omega⟩
    obtain rfl : i = 7 := by omega
    rw [fX12_orderPartAt_L4]
    simp (disch := first | omega | assumption | decide) only [↓pv_let, ↓pv_jn, ↓reduceIte, pv_bd, ↓pv_ocs, ↓pv_ocn, pv_gdt, pe_gd, pe_clamp, pt_eq, pf_eq, pt_le, pf_le, pt_lt, pf_lt, nI_add, nn_mul, pe_sub, pb_0, pb_1, pb_z, pe_ieq, pe_ine, pe_ik, pP_si, pS_si, pn_si, ps_si, pL_si, decide_true, ofNat_nI, pe_srI, pe_srN, pe_srS, pe_srP, not_true_eq_false, not_false_eq_true, true_and, and_true, and_self, false_and, and_false, nI_m1, nI_ms, Nat.add_sub_cancel, pl_0, pl_1, pl_2, pl_3, pl_4, pl_5, pl_6, pl_7, pl_8, pl_9, pl_10, pl_11, pl_12, pl_13, pl_14, pl_15, pl_16, pl_17, pl_18, pl_19, pl_20, pl_21, pl_22, pl_23, pl_24, pl_25, pl_26, pl_27, pl_28, pl_29, pl_30, pl_31, pl_32, pl_34, pl_36, pl_37, pl_40, pl_41, pl_42, pl_43, pl_45, pl_47, pl_48, pl_50, pl_57, pl_59, pl_60, pl_61, pl_62, pl_64, pl_70, pl_91, pl_93, pl_97, pl_98, pl_99, pl_100, pl_106, pl_122, pl_128, pl_136, pl_142, pl_165, pl_168, pl_170, pl_171, pl_173, pl_175, pl_187, pl_188, pl_189, pl_190, pl_206, pl_211, pl_219, pl_229, pl_255, pl_260, pl_400, pl_500, pl_512, pl_900, pl_999, pl_1000, pl_1001, pl_1005, pl_1020, pl_1023, pl_1024, pl_1103, pl_2000, pl_2040, pl_2176, pl_5660, pl_9999, pl_12345, pl_1000000, pl_1000003, pl_100000000, pl_1000000000, pz_0, pz_1, pz_t]
  | d + 1, i, n, hd, hn => by
    obtain ⟨n, rfl⟩ : ∃ m, n = m + 1 := ⟨n - 1, by omega⟩
    have IH := orderL h hL d (i + 1) n (by omega) (by omega)
    have hw := q12_isWordT h (tkO_rg i (by omega)).1 (tkO_rg i (by omega)).2
    rw [← L16 i (by omega), ← hL] at hw
    rw [← IH, fX12_orderPartAt_L4]
    by_cases e : c = tkO (i + 1)
    · simp (disch := first | omega | assumption | decide) only [↓pv_let, ↓pv_jn, ↓reduceIte, pv_bd, ↓pv_ocs, ↓pv_ocn, pv_gdt, pe_gd, pe_clamp, pt_eq, pf_eq, pt_le, pf_le, pt_lt, pf_lt, nI_add, nn_mul, pe_sub, pb_0, pb_1, pb_z, pe_ieq, pe_ine, pe_ik, pP_si, pS_si, pn_si, ps_si, pL_si, decide_true, ofNat_nI, pe_srI, pe_srN, pe_srS, pe_srP, not_true_eq_false, not_false_eq_true, true_and, and_true, and_self, false_and, and_false, nI_m1, nI_ms, Nat.add_sub_cancel, pl_0, pl_1, pl_2, pl_3, pl_4, pl_5, pl_6, pl_7, pl_8, pl_9, pl_10, pl_11, pl_12, pl_13, pl_14, pl_15, pl_16, pl_17, pl_18, pl_19, pl_20, pl_21, pl_22, pl_23, pl_24, pl_25, pl_26, pl_27, pl_28, pl_29, pl_30, pl_31, pl_32, pl_34, pl_36, pl_37, pl_40, pl_41, pl_42, pl_43, pl_45, pl_47, pl_48, pl_50, pl_57, pl_59, pl_60, pl_61, pl_62, pl_64, pl_70, pl_91, pl_93, pl_97, pl_98, pl_99, pl_100, pl_106, pl_122, pl_128, pl_136, pl_142, pl_165, pl_168, pl_170, pl_171, pl_173, pl_175, pl_187, pl_188, pl_189, pl_190, pl_206, pl_211, pl_219, pl_229, pl_255, pl_260, pl_400, pl_500, pl_512, pl_900, pl_999, pl_1000, pl_1001, pl_1005, pl_1020, pl_1023, pl_1024, pl_1103, pl_2000, pl_2040, pl_2176, pl_5660, pl_9999, pl_12345, pl_1000000, pl_1000003, pl_100000000, pl_1000000000, pz_0, pz_1, pz_t, hw, pwL, e]
    · simp (disch := first | omega | assumption | decide) only [↓pv_let, ↓pv_jn, ↓reduceIte, pv_bd, ↓pv_ocs, ↓pv_ocn, pv_gdt, pe_gd, pe_clamp, pt_eq, pf_eq, pt_le, pf_le, pt_lt, pf_lt, nI_add, nn_mul, pe_sub, pb_0, pb_1, pb_z, pe_ieq, pe_ine, pe_ik, pP_si, pS_si, pn_si, ps_si, pL_si, decide_true, ofNat_nI, pe_srI, pe_srN, pe_srS, pe_srP, not_true_eq_false, not_false_eq_true, true_and, and_true, and_self, false_and, and_false, nI_m1, nI_ms, Nat.add_sub_cancel, pl_0, pl_1, pl_2, pl_3, pl_4, pl_5, pl_6, pl_7, pl_8, pl_9, pl_10, pl_11, pl_12, pl_13, pl_14, pl_15, pl_16, pl_17, pl_18, pl_19, pl_20, pl_21, pl_22, pl_23, pl_24, pl_25, pl_26, pl_27, pl_28, pl_29, pl_30, pl_31, pl_32, pl_34, pl_36, pl_37, pl_40, pl_41, pl_42, pl_43, pl_45, pl_47, pl_48, pl_50, pl_57, pl_59, pl_60, pl_61, pl_62, pl_64, pl_70, pl_91, pl_93, pl_97, pl_98, pl_99, pl_100, pl_106, pl_122, pl_128, pl_136, pl_142, pl_165, pl_168, pl_170, pl_171, pl_173, pl_175, pl_187, pl_188, pl_189, pl_190, pl_206, pl_211, pl_219, pl_229, pl_255, pl_260, pl_400, pl_500, pl_512, pl_900, pl_999, pl_1000, pl_1001, pl_1005, pl_1020, pl_1023, pl_1024, pl_1103, pl_2000, pl_2040, pl_2176, pl_5660, pl_9999, pl_12345, pl_1000000, pl_1000003, pl_100000000, pl_1000000000, pz_0, pz_1, pz_t, hw, pwL, e]
theorem pwL_ix (c : Nat) : pwL c tkL 10 = ixL c := rfl
theorem pwO_ix (c : Nat) : pwL c tkO 7 = ixO c := rfl
theorem q12_partAt {g : am_G} {c : Nat} (h : TkS g c) (hL : am_L g 15 = am_L am_gr 15) : fX12_partAt g = some (ixL c, g) := partL h hL 10 0 am_fu (by decide) (by decide)
theorem q12_orderPartAt {g : am_G} {c : Nat} (h : TkS g c) (hL : am_L g 16 = am_L am_gr 16) : fX12_orderPartAt g = some (ixO c, g) := orderL h hL 7 0 am_fu (by decide) (by decide)
theorem ixL_in : ∀ c, 13 ≤ c → c ≤ 22 → ∃ j, 1 ≤ j ∧ j ≤ 10 ∧ ixL c = nI j ∧ tkL j = c := by
  intro c h1 h2
  rcases (show c = 13 ∨ c = 14 ∨ c = 15 ∨ c = 16 ∨ c = 17 ∨ c = 18 ∨ c = 19 ∨ c = 20 ∨ c = 21 ∨ c = 22 by omega) with rfl | rfl | rfl | rfl | rfl | rfl | rfl | rfl | rfl | rfl
  · exact ⟨4, by decide, by decide, rfl, rfl⟩
  · exact ⟨1, by decide, by decide, rfl, rfl⟩
  · exact ⟨2, by decide, by decide, rfl, rfl⟩
  · exact ⟨3, by decide, by decide, rfl, rfl⟩
  · exact ⟨5, by decide, by decide, rfl, rfl⟩
  · exact ⟨6, by decide, by decide, rfl, rfl⟩
  · exact ⟨7, by decide, by decide, rfl, rfl⟩
  · exact ⟨10, by decide, by decide, rfl, rfl⟩
  · exact ⟨8, by decide, by decide, rfl, rfl⟩
  · exact ⟨9, by decide, by decide, rfl, rfl⟩
theorem ixL_out {c : Nat} (h : ¬ (13 ≤ c ∧ c ≤ 22)) : ixL c = -nI 1 := by
  unfold ixL
  iterate 10 rw [if_neg (by omega)]
theorem ixO_in : ∀ c, 22 ≤ c → c ≤ 26 → ixO c = nI (c - 21) := by
  intro c h1 h2
  rcases (show c = 22 ∨ c = 23 ∨ c = 24 ∨ c = 25 ∨ c = 26 by omega) with rfl | rfl | rfl | rfl | rfl <;> rfl
theorem ixO_out {c : Nat} (h : ¬ (21 ≤ c ∧ c ≤ 27)) : ixO c = -nI 1 := by
  unfold ixO
  iterate 7 rw [if_neg (by omega)]

/-! ===== image ===== -/
def imw (g : am_G) (k : Nat) : am_G := am_si (am_sr g 3 (fun j => if 5660 * k ≤ j ∧ j < 5660 * k + 5660 then am_I g 2 (j - 5660 * k) else am_I g 3 j)) 4 k (nI 1)
theorem imageL {k : Nat} (hk : k < 2) : ∀ (d i n : Nat) (g : am_G), i + d = 5660 → d < n → fX12_image_L23 (nI k) n (nI i) g = some (nI 0, accR (am_si (am_sr g 3 (fun j => if 5660 * k + i ≤ j ∧ j < 5660 * k + 5660 then am_I g 2 (j - 5660 * k) else am_I g 3 j)) 4 k (nI 1)))
  | 0, i, n, g, hd, hn => by
    obtain ⟨n, rfl⟩ : ∃ m, n = m + 1 := ⟨n - 1, by omega⟩
    obtain rfl : i = 5660 := by omega
    have e : (fun j => if 5660 * k + 5660 ≤ j ∧ j < 5660 * k + 5660 then am_I g 2 (j - 5660 * k) else am_I g 3 j) = am_I g 3 := by
      funext j
      rw [if_neg (by omega)]
    rw [e, sr_self, fX12_image_L23]
    simp (disch := first | omega | assumption | decide) only [↓pv_let, ↓pv_jn, ↓reduceIte, pv_bd, ↓pv_ocs, ↓pv_ocn, pv_gdt, pe_gd, pe_clamp, pt_eq, pf_eq, pt_le, pf_le, pt_lt, pf_lt, nI_add, nn_mul, pe_sub, pb_0, pb_1, pb_z, pe_ieq, pe_ine, pe_ik, pP_si, pS_si, pn_si, ps_si, pL_si, decide_true, ofNat_nI, pe_srI, pe_srN, pe_srS, pe_srP, not_true_eq_false, not_false_eq_true, true_and, and_true, and_self, false_and, and_false, nI_m1, nI_ms, Nat.add_sub_cancel, pl_0, pl_1, pl_2, pl_3, pl_4, pl_5, pl_6, pl_7, pl_8, pl_9, pl_10, pl_11, pl_12, pl_13, pl_14, pl_15, pl_16, pl_17, pl_18, pl_19, pl_20, pl_21, pl_22, pl_23, pl_24, pl_25, pl_26, pl_27, pl_28, pl_29, pl_30, pl_31, pl_32, pl_34, pl_36, pl_37, pl_40, pl_41, pl_42, pl_43, pl_45, pl_47, pl_48, pl_50, pl_57, pl_59, pl_60, pl_61, pl_62, pl_64, pl_70, pl_91, pl_93, pl_97, pl_98, pl_99, pl_100, pl_106, pl_122, pl_128, pl_136, pl_142, pl_165, pl_168, pl_170, pl_171, pl_173, pl_175, pl_187, pl_188, pl_189, pl_190, pl_206, pl_211, pl_219, pl_229, pl_255, pl_260, pl_400, pl_500, pl_512, pl_900, pl_999, pl_1000, pl_1001, pl_1005, pl_1020, pl_1023, pl_1024, pl_1103, pl_2000, pl_2040, pl_2176, pl_5660, pl_9999, pl_12345, pl_1000000, pl_1000003, pl_100000000, pl_1000000000, pz_0, pz_1, pz_t, q12_tellP]
  | d + 1, i, n, g, hd, hn => by
    obtain ⟨n, rfl⟩ : ∃ m, n = m + 1 := ⟨n - 1, by omega⟩
    have IH := imageL hk d (i + 1) n (am_si g 3 (5660 * k + i) (am_I g 2 i)) (by omega) (by omega)
    have e : am_sr (am_si g 3 (5660 * k + i) (am_I g 2 i)) 3 (fun j => if 5660 * k + (i + 1) ≤ j ∧ j < 5660 * k + 5660 then am_I (am_si g 3 (5660 * k + i) (am_I g 2 i)) 2 (j - 5660 * k) else am_I (am_si g 3 (5660 * k + i) (am_I g 2 i)) 3 j) = am_sr g 3 (fun j => if 5660 * k + i ≤ j ∧ j < 5660 * k + 5660 then am_I g 2 (j - 5660 * k) else am_I g 3 j) := by
      show am_sr (am_sr g 3 _) 3 _ = _
      rw [sr_sr]
      congr 1
      funext j
      rw [pI_si_ne _ _ _ (show 2 ≠ 3 by decide), pI_si_row]
      by_cases h : j = 5660 * k + i
      · subst h
        rw [if_neg (by omega), am_up_eq, if_pos (by omega)]
        congr 1
        omega
      · rw [am_up_ne h]
        by_cases h2 : 5660 * k + (i + 1) ≤ j ∧ j < 5660 * k + 5660
        · rw [if_pos h2, if_pos (by omega)]
        · rw [if_neg h2, if_neg (by omega)]
    rw [e] at IH
    rw [← IH, fX12_image_L23]
    simp (disch := first | omega | assumption | decide) only [↓pv_let, ↓pv_jn, ↓reduceIte, pv_bd, ↓pv_ocs, ↓pv_ocn, pv_gdt, pe_gd, pe_clamp, pt_eq, pf_eq, pt_le, pf_le, pt_lt, pf_lt, nI_add, nn_mul, pe_sub, pb_0, pb_1, pb_z, pe_ieq, pe_ine, pe_ik, pP_si, pS_si, pn_si, ps_si, pL_si, decide_true, ofNat_nI, pe_srI, pe_srN, pe_srS, pe_srP, not_true_eq_false, not_false_eq_true, true_and, and_true, and_self, false_and, and_false, nI_m1, nI_ms, Nat.add_sub_cancel, pl_0, pl_1, pl_2, pl_3, pl_4, pl_5, pl_6, pl_7, pl_8, pl_9, pl_10, pl_11, pl_12, pl_13, pl_14, pl_15, pl_16, pl_17, pl_18, pl_19, pl_20, pl_21, pl_22, pl_23, pl_24, pl_25, pl_26, pl_27, pl_28, pl_29, pl_30, pl_31, pl_32, pl_34, pl_36, pl_37, pl_40, pl_41, pl_42, pl_43, pl_45, pl_47, pl_48, pl_50, pl_57, pl_59, pl_60, pl_61, pl_62, pl_64, pl_70, pl_91, pl_93, pl_97, pl_98, pl_99, pl_100, pl_106, pl_122, pl_128, pl_136, pl_142, pl_165, pl_168, pl_170, pl_171, pl_173, pl_175, pl_187, pl_188, pl_189, pl_190, pl_206, pl_211, pl_219, pl_229, pl_255, pl_260, pl_400, pl_500, pl_512, pl_900, pl_999, pl_1000, pl_1001, pl_1005, pl_1020, pl_1023, pl_1024, pl_1103, pl_2000, pl_2040, pl_2176, pl_5660, pl_9999, pl_12345, pl_1000000, pl_1000003, pl_100000000, pl_1000000000, pz_0, pz_1, pz_t]
def ImgK (own : Nat → Nat) (B : Nat) (gc gr : am_G) (k : Nat) : Prop :=
  (am_P gc 25 k = none ∧ am_I gr 4 k = nI 0) ∨ ∃ v, am_P gc 25 k = some v ∧ am_I gr 4 k = nI 1 ∧ 79 ≤ v ∧ v + 23 < am_n gc ∧ ImS gc v ∧ (∀ c, c < 24 → own (v + c) = 100 + k) ∧
    (∀ j, j < 259 → vr gc v (v + 1) j = imr gr k j ∧ okB B j (imr gr k j)) ∧ (imr gr k 5 = -1 ∨ (imr gr k 5).toInt < (imr gr k 4).toInt) ∧ ∃ n, n ≤ 6 ∧ imr gr k 4 = nI n ∧ LwsR own gc (v + 23) (imr gr k) n
/-- all of the relation but the image k, whose cells stand -/
def RelI (own : Nat → Nat) (B t k v : Nat) (gc gr : am_G) : Prop := Rc gc gr ∧ InvB B gr ∧ UndoR own B gc gr ∧ (∀ kk, kk < 2 → kk ≠ k → ImgK own B gc gr kk) ∧ TapeR gc gr ∧ CstR t gc gr ∧ WinR gc gr ∧ (∃ n, n ≤ 6 ∧ am_I gr 2 4 = nI n ∧ LwsR own gc 24 (am_I gr 2) n) ∧ am_P gc 25 k = some v ∧ 79 ≤ v ∧ v + 23 < am_n gc ∧ ImS gc v ∧ ∀ c, c < 24 → own (v + c) = 100 + k
theorem RelI.copied {own : Nat → Nat} {B t k v : Nat} {gc gr : am_G} (hk : k < 2) (h : RelI own B t k v gc gr) : RelM B t (cpV gc v 1) (imw gr k) := by
  obtain ⟨hR, hI, hU, hG, hT, hC, hW, ⟨nl, hnl, enl, hLw⟩, z1, z3, z4, z5, z6⟩ := h
  have cI : ∀ a, ¬ (v ≤ a ∧ a ≤ v + 22) → am_I (cpV gc v 1) a = am_I gc a := fun a h1 => cpV_ne h1
  have eP : ∀ c, c ≠ v + 23 → am_P (cpV gc v 1) c = am_P gc c := fun c hc => by
    show am_up (am_P gc) (v + 23) _ c = am_P gc c
    rw [am_up_ne hc]
  have ePv : ∀ l, l < 6 → am_P (cpV gc v 1) (v + 23) l = am_P gc 24 l := fun l hl => by
    show am_up (am_P gc) (v + 23) (fun l => if l < 6 then am_P gc (1 + 23) l else am_P gc (v + 23) l) (v + 23) l = _
    rw [am_up_eq, if_pos hl]
  have eS : am_S (cpV gc v 1) = am_S gc := rfl
  have en : am_n (cpV gc v 1) = am_n gc := rfl
  have es : am_s (cpV gc v 1) = am_s gc := rfl
  have ev : vr (cpV gc v 1) v (v + 1) = vr gc 1 2 := cpV_vr (g := gc) (b := v) (a := 1) (by omega)
  generalize cpV gc v 1 = g1 at *
  have rI : ∀ a, a ≠ 3 → a ≠ 4 → am_I (imw gr k) a = am_I gr a := fun a h0 h2 => by unfold imw; rw [pI_si_ne _ _ _ h2, pI_sr_ne _ _ h0]
  have r4 : ∀ j, j ≠ k → am_I (imw gr k) 4 j = am_I gr 4 j := fun j hj => by unfold imw; rw [pe_ik hj, pI_sr_ne _ _ (by decide)]
  have r4k : am_I (imw gr k) 4 k = nI 1 := pe_ieq _ _ _ _
  have ei : ∀ kk, kk ≠ k → ∀ j, j < 5660 → imr (imw gr k) kk j = imr gr kk j := fun kk hkk j hj => by
    unfold imr imw
    rw [pI_si_ne _ _ _ (by decide), pI_sr_row, if_neg (by omega)]
  have eik : ∀ j, j < 5660 → imr (imw gr k) k j = am_I gr 2 j := fun j hj => by
    unfold imr imw
    rw [pI_si_ne _ _ _ (by decide), pI_sr_row, if_pos (by omega)]
    congr 1
    omega
  have r22 : (imw gr k).2 = gr.2 := rfl
  generalize imw gr k = gr1 at *
  have far : ∀ a, own a ≠ 100 + k → ¬ (v ≤ a ∧ a ≤ v + 23) := by
    intro a ho hr
    apply ho
    rw [← z6 (a - v) (by omega)]
    congr 1
    omega
  have pk : ∀ p, PkS gc p → p ≠ v + 23 → PkS g1 p := fun p hp h24 => hp.tra (fun a _ _ => by rw [eS]) (eP p h24)
  have im : ∀ w, ImS gc w → ¬ (w ≤ v + 23 ∧ v + 23 ≤ w + 22) → ImS g1 w := by
    intro w hw hne
    obtain ⟨c1, c2, c3, c4, c5, c6, c7, c8, c9, c10, c11, c12⟩ := hw
    refine ⟨by rw [eS]; exact c1, pk _ c2 (by omega), by rw [eS]; exact c3, by rw [eS]; exact c4, by rw [eS]; exact c5, by rw [eS]; exact c6, by rw [eS]; exact c7, fun c hc => ⟨by rw [eP _ (by omega)]; exact (c8 c hc).1, by rw [eS]; exact (c8 c hc).2⟩, by rw [eS]; exact c9, by rw [eS]; exact c10, by rw [eS]; exact c11, ?_⟩
    rw [eP w (by omega)]
    exact c12
  have old : ∀ a, 79 ≤ a → a < am_n gc → own a = 0 → own a = 0 ∧ am_S g1 a = am_S gc a ∧ am_P g1 a = am_P gc a ∧ am_I g1 a = am_I gc a := fun a _ _ ho => by
    have hf := far a (by omega)
    exact ⟨ho, by rw [eS], eP a (by omega), cI a (by omega)⟩
  have lw : ∀ {la : Nat} {ρ : Row} {m : Nat}, la ≠ v + 23 → LwsR own gc la ρ m → LwsR own g1 la ρ m := fun hla hL => hL.tra (by rw [en]; exact Nat.le_refl _) (fun l _ => by rw [eP _ hla]) old (fun _ _ => rfl)
  have r2 : am_I gr1 2 = am_I gr 2 := rI 2 (by decide) (by decide)
  refine ⟨fun q hq => ?_, ⟨fun j hj => by rw [r2]; exact hI.1 j hj, by rw [r2]; exact hI.2.1, by rw [rI 0 (by decide) (by decide)]; exact hI.2.2.1, by rw [rI 0 (by decide) (by decide)]; exact hI.2.2.2⟩, own, ?_, ?_, ?_, ?_, ?_, nl, hnl, by rw [r2]; exact enl, by rw [r2]; exact lw (by omega) hLw⟩
  · have o1 := (om_keep q hq).1
    have o4 := (om_scr q hq).2.2.2
    rw [cI _ (by omega), rI _ (by omega) (by omega)]
    exact hR q hq
  · obtain ⟨x, kk, hx, hkk, ex, ek, hring, hu⟩ := hU
    refine ⟨x, kk, hx, hkk, by rw [cI 26 (by omega)]; exact ex, by rw [rI 0 (by decide) (by decide)]; exact ek, fun j p hj hjp => ?_, fun i hi => ?_⟩
    · rw [eP 27 (by omega)] at hjp
      obtain ⟨y1, y2, y3, y4⟩ := hring j p hj hjp
      have hf := far p (by have := y4 0 (by omega); rw [Nat.add_zero] at this; omega)
      exact ⟨y1, by rw [en]; exact y2, pk p y3 (by omega), y4⟩
    · obtain ⟨p, u1, u2, u3, u4⟩ := hu i hi
      obtain ⟨y1, y2, y3, y4⟩ := hring _ p (Nat.mod_lt _ (by decide)) u1
      refine ⟨p, by rw [eP 27 (by omega)]; exact u1, by rw [cI 28 (by omega), rI 6 (by decide) (by decide)]; exact u2, by rw [rI 6 (by decide) (by decide)]; exact u3, fun j h1 h2 => ?_⟩
      rw [rI 5 (by decide) (by decide)]
      refine ⟨?_, (u4 j h1 h2).2⟩
      rw [← (u4 j h1 h2).1]
      refine congrFun (vr_cg fun a ha => cI a ?_) j
      rcases ha with ha | ha
      · have hf := far a (by rw [show a = p + (a - p) by omega, y4 (a - p) (by omega)]; omega)
        omega
      · omega
  · intro kk hkk
    by_cases e : kk = k
    · subst e
      refine Or.inr ⟨v, by rw [eP 25 (by omega)]; exact z1, r4k, z3, by rw [en]; exact z4, im v z5 (by omega), z6, fun j hj => ?_, by rw [eik 5 (by decide), eik 4 (by decide)]; exact hI.2.1, nl, hnl, by rw [eik 4 (by decide)]; exact enl, ?_⟩
      · rw [eik j (by omega)]
        refine ⟨?_, hI.1 j hj⟩
        rw [ev, hR.row, rr_at hj]
      · have h1 : LwsR own g1 (v + 23) (am_I gr 2) nl := hLw.tra (by rw [en]; exact Nat.le_refl _) (fun l hl => ePv l (by omega)) old (fun _ _ => rfl)
        exact h1.cgB hnl (fun j _ hj => eik j hj)
    · have hGk := hG kk hkk e
      unfold ImgK at hGk
      rw [eP 25 (by omega), r4 kk e]
      rcases hGk with y | ⟨w, y1, y2, y3, y4, y5, y6, y7, y8, m, y9, y10, y11⟩
      · exact Or.inl y
      · have hw : ∀ c, c < 24 → ¬ (v ≤ w + c ∧ w + c ≤ v + 23) := fun c hc => far _ (by rw [y6 c hc]; omega)
        have hw0 := hw 0 (by omega)
        have hw23 := hw 23 (by omega)
        refine Or.inr ⟨w, y1, y2, y3, by rw [en]; exact y4, im w y5 (by omega), y6, fun j hj => ?_, by rw [ei kk e 5 (by decide), ei kk e 4 (by decide)]; exact y8, m, y9, by rw [ei kk e 4 (by decide)]; exact y10, (lw (by omega) y11).cgB y9 (fun j _ hj => ei kk e j hj)⟩
        rw [ei kk e j (by omega)]
        refine ⟨?_, (y7 j hj).2⟩
        rw [← (y7 j hj).1]
        exact congrFun (vr_cg fun a ha => cI a (by omega)) j
  · intro i hi
    rw [cI 30 (by omega), rI 9 (by decide) (by decide)]
    exact hT i hi
  · obtain ⟨c1, c2, c3, c4, c5, c6, c7, c8, c9, c10, c11, c12⟩ := hC
    have eL : am_L gr1 = am_L gr := congrArg (fun z => z.1) r22
    have enr : am_n gr1 = am_n gr := congrArg (fun z => z.2.2.2.1) r22
    have esr : am_s gr1 = am_s gr := congrArg (fun z => z.2.2.2.2) r22
    exact ⟨by rw [cI 28 (by omega)]; exact c1, im 1 c2 (by omega), pk 65 c3 (by omega), pk 71 c4 (by omega), by rw [en]; exact c5, by rw [enr]; exact c6, by rw [esr]; exact c7, by rw [en, eP 27 (by omega)]; exact c8, by rw [es, eP 27 (by omega)]; exact c9, by rw [eL]; exact c10, by rw [eL]; exact c11, by rw [eL]; exact c12.1, c12.2.tra (fun a _ => by rw [eS]) (eP 33 (by omega))⟩
  · intro s hs
    rw [cI 72 (by omega), cI 76 (by omega), rI 34 (by decide) (by decide)]
    exact hW s hs
/-- an image's cells are made -/
theorem RelM.made {B t k : Nat} {gc gr r : am_G} (h : RelM B t gc gr) (hk : k < 2) (h1 : am_n r = am_n gc + 24) (h2 : am_s r = am_s gc + 288) (h3 : ImS r (am_n gc)) (h4 : ∀ a, a < am_n gc → am_S r a = am_S gc a ∧ am_P r a = am_P gc a ∧ am_I r a = am_I gc a) : ∃ own, RelI own B (t + 1) k (am_n gc) (am_sp r 25 k (some (am_n gc))) gr := by
  obtain ⟨hR, hI, own, hU, hG, hT, hC, hW, nl, hnl, enl, hLw⟩ := h
  have h79 := hC.2.2.2.2.1
  have eI : ∀ a, a < am_n gc → am_I (am_sp r 25 k (some (am_n gc))) a = am_I gc a := fun a ha => by rw [pI_sp]; exact (h4 a ha).2.2
  have eS : ∀ a, a < am_n gc → am_S (am_sp r 25 k (some (am_n gc))) a = am_S gc a := fun a ha => by rw [pS_sp]; exact (h4 a ha).1
  have eP : ∀ a, a < am_n gc → a ≠ 25 → am_P (am_sp r 25 k (some (am_n gc))) a = am_P gc a := fun a ha hne => by rw [pP_spn hne]; exact (h4 a ha).2.1
  have eP5 : ∀ j, j ≠ k → am_P (am_sp r 25 k (some (am_n gc))) 25 j = am_P gc 25 j := fun j hj => by rw [pP_spk hj, (h4 25 (by omega)).2.1]
  have eP5k : am_P (am_sp r 25 k (some (am_n gc))) 25 k = some (am_n gc) := pP_spe _ _ _ _
  have en : am_n (am_sp r 25 k (some (am_n gc))) = am_n gc + 24 := by rw [pn_sp, h1]
  have es : am_s (am_sp r 25 k (some (am_n gc))) = am_s gc + 288 := by rw [ps_sp, h2]
  have hIm : ImS (am_sp r 25 k (some (am_n gc))) (am_n gc) := h3.tra (fun a ha _ => ⟨by rw [pS_sp], pP_spn (by omega)⟩)
  generalize am_sp r 25 k (some (am_n gc)) = g1 at *
  have hown : ∀ a, a < am_n gc → (fun a => if am_n gc ≤ a then 100 + k else own a) a = own a := fun a ha => if_neg (by omega)
  have old : ∀ a, 79 ≤ a → a < am_n gc → own a = 0 → (fun a => if am_n gc ≤ a then 100 + k else own a) a = 0 ∧ am_S g1 a = am_S gc a ∧ am_P g1 a = am_P gc a ∧ am_I g1 a = am_I gc a := fun a h1 h2 ho => ⟨by rw [hown a h2]; exact ho, eS a h2, eP a h2 (by omega), eI a h2⟩
  have lw : ∀ {la : Nat} {ρ : Row} {m : Nat}, la < am_n gc → la ≠ 25 → LwsR own gc la ρ m → LwsR (fun a => if am_n gc ≤ a then 100 + k else own a) g1 la ρ m := fun hl hla hL => hL.tra (by rw [en]; omega) (fun l _ => by rw [eP _ hl hla]) old (fun _ _ => rfl)
  have pk : ∀ p, PkS gc p → p + 5 < am_n gc → p ≠ 25 → PkS g1 p := fun p hp hl hne => hp.tra (fun a _ _ => eS a (by omega)) (eP p (by omega) hne)
  refine ⟨fun a => if am_n gc ≤ a then 100 + k else own a, fun q hq => ?_, hI, ?_, ?_, ?_, ?_, ?_, ⟨nl, hnl, enl, lw (by omega) (by decide) hLw⟩, eP5k, h79, by rw [en]; omega, hIm, fun c hc => if_pos (by omega)⟩
  · rw [eI _ (by have := (om_keep q hq).1; omega)]
    exact hR q hq
  · obtain ⟨x, kk, hx, hkk, ex, ek, hring, hu⟩ := hU
    refine ⟨x, kk, hx, hkk, by rw [eI 26 (by omega)]; exact ex, ek, fun j p hj hjp => ?_, fun i hi => ?_⟩
    · rw [eP 27 (by omega) (by decide)] at hjp
      obtain ⟨y1, y2, y3, y4⟩ := hring j p hj hjp
      exact ⟨y1, by rw [en]; omega, pk p y3 y2 (by omega), fun c hc => by rw [hown _ (by omega)]; exact y4 c hc⟩
    · obtain ⟨p, u1, u2, u3, u4⟩ := hu i hi
      obtain ⟨y1, y2, y3, y4⟩ := hring _ p (Nat.mod_lt _ (by decide)) u1
      refine ⟨p, by rw [eP 27 (by omega) (by decide)]; exact u1, by rw [eI 28 (by omega)]; exact u2, u3, fun j h1 h2 => ?_⟩
      refine ⟨?_, (u4 j h1 h2).2⟩
      rw [← (u4 j h1 h2).1]
      exact congrFun (vr_cg fun a ha => eI a (by omega)) j
  · intro kk hkk hne
    unfold ImgK
    rw [eP5 kk hne]
    rcases hG kk hkk with y | ⟨w, y1, y2, y3, y4, y5, y6, y7, y8, m, y9, y10, y11⟩
    · exact Or.inl y
    · refine Or.inr ⟨w, y1, y2, y3, by rw [en]; omega, y5.tra (fun a _ _ => ⟨eS a (by omega), eP a (by omega) (by omega)⟩), fun c hc => by rw [hown _ (by omega)]; exact y6 c hc, fun j hj => ?_, y8, m, y9, y10, lw (by omega) (by omega) y11⟩
      refine ⟨?_, (y7 j hj).2⟩
      rw [← (y7 j hj).1]
      exact congrFun (vr_cg fun a ha => eI a (by omega)) j
  · intro i hi
    rw [eI 30 (by omega)]
    exact hT i hi
  · obtain ⟨c1, c2, c3, c4, c5, c6, c7, c8, c9, c10, c11, c12⟩ := hC
    exact ⟨by rw [eI 28 (by omega)]; exact c1, c2.tra (fun a _ _ => ⟨eS a (by omega), eP a (by omega) (by omega)⟩), pk 65 c3 (by omega) (by decide), pk 71 c4 (by omega) (by decide), by rw [en]; omega, c6, c7, by rw [en, eP 27 (by omega) (by decide)]; omega, by rw [es, eP 27 (by omega) (by decide)]; omega, c10, c11, c12.1, c12.2.tra (fun a ha => eS a (by omega)) (eP 33 (by omega) (by decide))⟩
  · intro s hs
    rw [eI 72 (by omega), eI 76 (by omega)]
    exact hW s hs
theorem m_image {t : Nat} {gc gr : am_G} (h : Rel t gc gr) (a1 : Int32) : ∃ (v : Int32) (gc1 gr1 : am_G), fX11_image a1 gc = some (v, gc1) ∧ fX12_image a1 gr = some (v, gr1) ∧ Rel (t + 1) gc1 gr1 := by
  have hT := RelM.thr h
  unfold fX11_image fX12_image
  rw [show (0 : Int64) = (nI 0).toInt64 from rfl, show (1 : Int64) = (nI 1).toInt64 from rfl]
  by_cases h1 : nI 0 ≤ a1 ∧ a1 ≤ nI 1
  · obtain ⟨k, hk, rfl⟩ := nn_rng (n := 1) (by decide) h1
    have hk2 : k < 2 := by omega
    have il := imageL (k := k) hk2 5660 0 am_fu (thr gr) rfl (by decide)
    rw [Nat.add_zero] at il
    have il' : fX12_image_L23 (nI k) am_fu (nI 0) (thr gr) = some (nI 0, accR (imw (thr gr) k)) := il
    obtain ⟨hR, hI, own, hU, hG, hTp, hC, hW, nl, hnl, enl, hLw⟩ := id hT
    rcases hG k hk2 with ⟨z1, z2⟩ | ⟨v, z1, z2, z3, z4, z5, z6, z7, z8, n, z9, z10, z11⟩
    · obtain ⟨r, q1, q2, q3, q4, q5⟩ := q9_init (g := gc) rfl hC.2.2.2.2.1
      obtain ⟨own', hX⟩ := hT.made hk2 q2 q3 q4 q5
      have hX' := hX
      obtain ⟨-, -, -, -, -, xC, -, ⟨nl', -, -, xL⟩, x1, x3, x4, x5, x6⟩ := hX'
      have cf := q9_copyFrom (g := am_sp r 25 k (some (am_n gc))) (b := am_n gc) (a := 1) x5 xC.2.1 (by omega) (Or.inl (by omega)) (fun l p hl hp => (xL.2 l p hl hp).2.2.2)
      refine ⟨nI 0, accC (cpV (am_sp r 25 k (some (am_n gc))) (am_n gc) 1), accR (imw (thr gr) k), ?_, ?_, ((hX.copied hk2).acc).up (by omega) (Nat.le_refl _)⟩
      · have s1 := q4.1
        have s2 := x5.1
        simp (disch := first | omega | assumption | decide) only [↓pv_let, ↓pv_jn, ↓reduceIte, pv_bd, ↓pv_ocs, ↓pv_ocn, pv_gdt, pe_gd, pe_clamp, pt_eq, pf_eq, pt_le, pf_le, pt_lt, pf_lt, nI_add, nn_mul, pe_sub, pb_0, pb_1, pb_z, pe_ieq, pe_ine, pe_ik, pP_si, pS_si, pn_si, ps_si, pL_si, decide_true, ofNat_nI, pe_srI, pe_srN, pe_srS, pe_srP, not_true_eq_false, not_false_eq_true, true_and, and_true, and_self, false_and, and_false, nI_m1, nI_ms, Nat.add_sub_cancel, pl_0, pl_1, pl_2, pl_3, pl_4, pl_5, pl_6, pl_7, pl_8, pl_9, pl_10, pl_11, pl_12, pl_13, pl_14, pl_15, pl_16, pl_17, pl_18, pl_19, pl_20, pl_21, pl_22, pl_23, pl_24, pl_25, pl_26, pl_27, pl_28, pl_29, pl_30, pl_31, pl_32, pl_34, pl_36, pl_37, pl_40, pl_41, pl_42, pl_43, pl_45, pl_47, pl_48, pl_50, pl_57, pl_59, pl_60, pl_61, pl_62, pl_64, pl_70, pl_91, pl_93, pl_97, pl_98, pl_99, pl_100, pl_106, pl_122, pl_128, pl_136, pl_142, pl_165, pl_168, pl_170, pl_171, pl_173, pl_175, pl_187, pl_188, pl_189, pl_190, pl_206, pl_211, pl_219, pl_229, pl_255, pl_260, pl_400, pl_500, pl_512, pl_900, pl_999, pl_1000, pl_1001, pl_1005, pl_1020, pl_1023, pl_1024, pl_1103, pl_2000, pl_2040, pl_2176, pl_5660, pl_9999, pl_12345, pl_1000000, pl_1000003, pl_100000000, pl_1000000000, pz_0, pz_1, pz_t, q11_within, z1, q1, s1, x1, s2, cf, s11_accepted]
      · rw [← il']
        simp (disch := first | omega | assumption | decide) only [↓pv_let, ↓pv_jn, ↓reduceIte, pv_bd, ↓pv_ocs, ↓pv_ocn, pv_gdt, pe_gd, pe_clamp, pt_eq, pf_eq, pt_le, pf_le, pt_lt, pf_lt, nI_add, nn_mul, pe_sub, pb_0, pb_1, pb_z, pe_ieq, pe_ine, pe_ik, pP_si, pS_si, pn_si, ps_si, pL_si, decide_true, ofNat_nI, pe_srI, pe_srN, pe_srS, pe_srP, not_true_eq_false, not_false_eq_true, true_and, and_true, and_self, false_and, and_false, nI_m1, nI_ms, Nat.add_sub_cancel, pl_0, pl_1, pl_2, pl_3, pl_4, pl_5, pl_6, pl_7, pl_8, pl_9, pl_10, pl_11, pl_12, pl_13, pl_14, pl_15, pl_16, pl_17, pl_18, pl_19, pl_20, pl_21, pl_22, pl_23, pl_24, pl_25, pl_26, pl_27, pl_28, pl_29, pl_30, pl_31, pl_32, pl_34, pl_36, pl_37, pl_40, pl_41, pl_42, pl_43, pl_45, pl_47, pl_48, pl_50, pl_57, pl_59, pl_60, pl_61, pl_62, pl_64, pl_70, pl_91, pl_93, pl_97, pl_98, pl_99, pl_100, pl_106, pl_122, pl_128, pl_136, pl_142, pl_165, pl_168, pl_170, pl_171, pl_173, pl_175, pl_187, pl_188, pl_189, pl_190, pl_206, pl_211, pl_219, pl_229, pl_255, pl_260, pl_400, pl_500, pl_512, pl_900, pl_999, pl_1000, pl_1001, pl_1005, pl_1020, pl_1023, pl_1024, pl_1103, pl_2000, pl_2040, pl_2176, pl_5660, pl_9999, pl_12345, pl_1000000, pl_1000003, pl_100000000, pl_1000000000, pz_0, pz_1, pz_t, thr_0, q12_in]
    · have cf := q9_copyFrom (g := gc) (b := v) (a := 1) z5 hC.2.1 (by omega) (Or.inl (by omega)) (fun l p hl hp => (hLw.2 l p hl hp).2.2.2)
      have s1 := z5.1
      have hX : RelI own (239760 * t) t k v gc (thr gr) := ⟨hR, hI, hU, fun kk hkk _ => hG kk hkk, hTp, hC, hW, ⟨nl, hnl, enl, hLw⟩, z1, z3, z4, z5, z6⟩
      refine ⟨nI 0, accC (cpV gc v 1), accR (imw (thr gr) k), ?_, ?_, Rel.nx (hX.copied hk2).acc⟩
      · simp (disch := first | omega | assumption | decide) only [↓pv_let, ↓pv_jn, ↓reduceIte, pv_bd, ↓pv_ocs, ↓pv_ocn, pv_gdt, pe_gd, pe_clamp, pt_eq, pf_eq, pt_le, pf_le, pt_lt, pf_lt, nI_add, nn_mul, pe_sub, pb_0, pb_1, pb_z, pe_ieq, pe_ine, pe_ik, pP_si, pS_si, pn_si, ps_si, pL_si, decide_true, ofNat_nI, pe_srI, pe_srN, pe_srS, pe_srP, not_true_eq_false, not_false_eq_true, true_and, and_true, and_self, false_and, and_false, nI_m1, nI_ms, Nat.add_sub_cancel, pl_0, pl_1, pl_2, pl_3, pl_4, pl_5, pl_6, pl_7, pl_8, pl_9, pl_10, pl_11, pl_12, pl_13, pl_14, pl_15, pl_16, pl_17, pl_18, pl_19, pl_20, pl_21, pl_22, pl_23, pl_24, pl_25, pl_26, pl_27, pl_28, pl_29, pl_30, pl_31, pl_32, pl_34, pl_36, pl_37, pl_40, pl_41, pl_42, pl_43, pl_45, pl_47, pl_48, pl_50, pl_57, pl_59, pl_60, pl_61, pl_62, pl_64, pl_70, pl_91, pl_93, pl_97, pl_98, pl_99, pl_100, pl_106, pl_122, pl_128, pl_136, pl_142, pl_165, pl_168, pl_170, pl_171, pl_173, pl_175, pl_187, pl_188, pl_189, pl_190, pl_206, pl_211, pl_219, pl_229, pl_255, pl_260, pl_400, pl_500, pl_512, pl_900, pl_999, pl_1000, pl_1001, pl_1005, pl_1020, pl_1023, pl_1024, pl_1103, pl_2000, pl_2040, pl_2176, pl_5660, pl_9999, pl_12345, pl_1000000, pl_1000003, pl_100000000, pl_1000000000, pz_0, pz_1, pz_t, q11_within, z1, s1, cf, s11_accepted]
      · rw [← il']
        simp (disch := first | omega | assumption | decide) only [↓pv_let, ↓pv_jn, ↓reduceIte, pv_bd, ↓pv_ocs, ↓pv_ocn, pv_gdt, pe_gd, pe_clamp, pt_eq, pf_eq, pt_le, pf_le, pt_lt, pf_lt, nI_add, nn_mul, pe_sub, pb_0, pb_1, pb_z, pe_ieq, pe_ine, pe_ik, pP_si, pS_si, pn_si, ps_si, pL_si, decide_true, ofNat_nI, pe_srI, pe_srN, pe_srS, pe_srP, not_true_eq_false, not_false_eq_true, true_and, and_true, and_self, false_and, and_false, nI_m1, nI_ms, Nat.add_sub_cancel, pl_0, pl_1, pl_2, pl_3, pl_4, pl_5, pl_6, pl_7, pl_8, pl_9, pl_10, pl_11, pl_12, pl_13, pl_14, pl_15, pl_16, pl_17, pl_18, pl_19, pl_20, pl_21, pl_22, pl_23, pl_24, pl_25, pl_26, pl_27, pl_28, pl_29, pl_30, pl_31, pl_32, pl_34, pl_36, pl_37, pl_40, pl_41, pl_42, pl_43, pl_45, pl_47, pl_48, pl_50, pl_57, pl_59, pl_60, pl_61, pl_62, pl_64, pl_70, pl_91, pl_93, pl_97, pl_98, pl_99, pl_100, pl_106, pl_122, pl_128, pl_136, pl_142, pl_165, pl_168, pl_170, pl_171, pl_173, pl_175, pl_187, pl_188, pl_189, pl_190, pl_206, pl_211, pl_219, pl_229, pl_255, pl_260, pl_400, pl_500, pl_512, pl_900, pl_999, pl_1000, pl_1001, pl_1005, pl_1020, pl_1023, pl_1024, pl_1103, pl_2000, pl_2040, pl_2176, pl_5660, pl_9999, pl_12345, pl_1000000, pl_1000003, pl_100000000, pl_1000000000, pz_0, pz_1, pz_t, thr_0, q12_in]
  · refine ⟨-nI 1, refC 1 gc, refR 1 (thr gr), ?_, ?_, Rel.nx (hT.refu (by decide))⟩
    · simp (disch := first | omega | assumption | decide) only [↓pv_let, ↓pv_jn, ↓reduceIte, pv_bd, ↓pv_ocs, ↓pv_ocn, pv_gdt, pe_gd, pe_clamp, pt_eq, pf_eq, pt_le, pf_le, pt_lt, pf_lt, nI_add, nn_mul, pe_sub, pb_0, pb_1, pb_z, pe_ieq, pe_ine, pe_ik, pP_si, pS_si, pn_si, ps_si, pL_si, decide_true, ofNat_nI, pe_srI, pe_srN, pe_srS, pe_srP, not_true_eq_false, not_false_eq_true, true_and, and_true, and_self, false_and, and_false, nI_m1, nI_ms, Nat.add_sub_cancel, pl_0, pl_1, pl_2, pl_3, pl_4, pl_5, pl_6, pl_7, pl_8, pl_9, pl_10, pl_11, pl_12, pl_13, pl_14, pl_15, pl_16, pl_17, pl_18, pl_19, pl_20, pl_21, pl_22, pl_23, pl_24, pl_25, pl_26, pl_27, pl_28, pl_29, pl_30, pl_31, pl_32, pl_34, pl_36, pl_37, pl_40, pl_41, pl_42, pl_43, pl_45, pl_47, pl_48, pl_50, pl_57, pl_59, pl_60, pl_61, pl_62, pl_64, pl_70, pl_91, pl_93, pl_97, pl_98, pl_99, pl_100, pl_106, pl_122, pl_128, pl_136, pl_142, pl_165, pl_168, pl_170, pl_171, pl_173, pl_175, pl_187, pl_188, pl_189, pl_190, pl_206, pl_211, pl_219, pl_229, pl_255, pl_260, pl_400, pl_500, pl_512, pl_900, pl_999, pl_1000, pl_1001, pl_1005, pl_1020, pl_1023, pl_1024, pl_1103, pl_2000, pl_2040, pl_2176, pl_5660, pl_9999, pl_12345, pl_1000000, pl_1000003, pl_100000000, pl_1000000000, pz_0, pz_1, pz_t, q11_within, h1, q11_refused]
    · simp (disch := first | omega | assumption | decide) only [↓pv_let, ↓pv_jn, ↓reduceIte, pv_bd, ↓pv_ocs, ↓pv_ocn, pv_gdt, pe_gd, pe_clamp, pt_eq, pf_eq, pt_le, pf_le, pt_lt, pf_lt, nI_add, nn_mul, pe_sub, pb_0, pb_1, pb_z, pe_ieq, pe_ine, pe_ik, pP_si, pS_si, pn_si, ps_si, pL_si, decide_true, ofNat_nI, pe_srI, pe_srN, pe_srS, pe_srP, not_true_eq_false, not_false_eq_true, true_and, and_true, and_self, false_and, and_false, nI_m1, nI_ms, Nat.add_sub_cancel, pl_0, pl_1, pl_2, pl_3, pl_4, pl_5, pl_6, pl_7, pl_8, pl_9, pl_10, pl_11, pl_12, pl_13, pl_14, pl_15, pl_16, pl_17, pl_18, pl_19, pl_20, pl_21, pl_22, pl_23, pl_24, pl_25, pl_26, pl_27, pl_28, pl_29, pl_30, pl_31, pl_32, pl_34, pl_36, pl_37, pl_40, pl_41, pl_42, pl_43, pl_45, pl_47, pl_48, pl_50, pl_57, pl_59, pl_60, pl_61, pl_62, pl_64, pl_70, pl_91, pl_93, pl_97, pl_98, pl_99, pl_100, pl_106, pl_122, pl_128, pl_136, pl_142, pl_165, pl_168, pl_170, pl_171, pl_173, pl_175, pl_187, pl_188, pl_189, pl_190, pl_206, pl_211, pl_219, pl_229, pl_255, pl_260, pl_400, pl_500, pl_512, pl_900, pl_999, pl_1000, pl_1001, pl_1005, pl_1020, pl_1023, pl_1024, pl_1103, pl_2000, pl_2040, pl_2176, pl_5660, pl_9999, pl_12345, pl_1000000, pl_1000003, pl_100000000, pl_1000000000, pz_0, pz_1, pz_t, thr_0, q12_in, h1, q12_tellN]

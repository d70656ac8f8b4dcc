/-! ===== steps that change the row ===== -/
def okR (B : Nat) (ρ : Row) : Prop := ∀ j, j < 259 → okB B j (ρ j)
theorem okR.ov {B : Nat} {ρ : Row} (h : okR B ρ) : okV ρ := fun j hj hs => (h j hj).2 hs
theorem okR.up {B : Nat} {ρ : Row} (h : okR B ρ) {j : Nat} {x : Int32} (hx : okB B j x) : okR B (am_up ρ j x) := by
  intro i hi
  by_cases e : i = j
  · subst e; rw [am_up_eq]; exact hx
  · rw [am_up_ne e]; exact h i hi
theorem okR.le {B B' : Nat} {ρ : Row} (h : okR B ρ) (hB : B ≤ B') : okR B' ρ := fun j hj => (h j hj).le hB
theorem okR.of {B : Nat} {ρ : Row} (hV : okV ρ) (hs : ∀ j, j < 259 → stp j → 0 ≤ (ρ j).toInt ∧ (ρ j).toInt ≤ B) : okR B ρ := fun j hj => ⟨fun z => hs j hj z, fun z => hV j hj z⟩
theorem InvB.okR {B : Nat} {g : am_G} (h : InvB B g) : okR B (rr g) := fun j hj => by rw [rr_at hj]; exact h.1 j hj
theorem okB_0 (B : Nat) {j : Nat} (h : stp j) : okB B j (nI 0) := ⟨fun _ => ⟨by decide, by have : (nI 0).toInt = 0 := rfl; omega⟩, fun z => absurd h z⟩
theorem okB_n {B j : Nat} {x : Int32} (h : ¬ stp j) (hx : okAt 0 j x) : okB B j x := ⟨fun z => absurd z h, fun _ => hx⟩
theorem cl_rg (n : Nat) (hn : n < 2147483648) (x : Int32) : ∃ m, m ≤ n ∧ am_max (nI 0) (am_min (nI n) x) = nI m := by
  by_cases h1 : x < nI n
  · rw [show am_min (nI n) x = x from if_pos h1]
    by_cases h2 : nI 0 < x
    · rw [show am_max (nI 0) x = x from if_pos h2]
      obtain ⟨e1, e2⟩ := nn_of (x := x) (Int32.le_of_lt h2)
      refine ⟨x.toNatClampNeg, ?_, e1⟩
      rw [e1] at h1
      have := (nI_ltI e2 hn).mp h1
      omega
    · exact ⟨0, Nat.zero_le _, if_neg h2⟩
  · rw [show am_min (nI n) x = nI n from if_neg h1]
    by_cases h2 : nI 0 < nI n
    · exact ⟨n, Nat.le_refl _, if_pos h2⟩
    · exact ⟨0, Nat.zero_le _, if_neg h2⟩
theorem shk_rg {q : Option pLw} {ρ : Row} (hV : okV ρ) {w p l s : Nat} (hw : w < 16) (hp : p < 4) (hl : l ≤ 3) (hs : s < 6) : ∃ m, m ≤ 999 ∧ shk q ρ w p l s = nI m := by
  unfold shk
  cases tlv q 0 (eS ρ w p l s) with
  | none =>
    obtain ⟨m1, b1, e1⟩ := hV.long hw
    obtain ⟨m2, b2, e2⟩ := hV.far hs hp
    rw [e1, e2]
    obtain ⟨x, hx, hx1, hx2, hx3⟩ := mul_small b1 hl b2
    rw [hx]
    show ∃ m, m ≤ 999 ∧ am_max (nI 0) x = nI m
    by_cases h2 : nI 0 < x
    · rw [show am_max (nI 0) x = x from if_pos h2]
      obtain ⟨e1, e2⟩ := nn_of (x := x) (Int32.le_of_lt h2)
      refine ⟨x.toNatClampNeg, ?_, e1⟩
      have : x.toNatClampNeg = x.toInt.toNat := rfl
      omega
    · exact ⟨0, Nat.zero_le _, if_neg h2⟩
  | some v => exact cl_rg 999 (by decide) v
theorem prs_un (ρ : Row) (i : Nat) (sh : Nat → Int32) {j : Nat} : ∀ n, (∀ s, s < n → j ≠ 10 + 10 * s + 8 ∧ j ≠ 70 + 6 * s + i) → prs ρ i sh n j = ρ j
  | 0, _ => rfl
  | n + 1, h => by rw [prs, am_up_ne (h n (by omega)).2, am_up_ne (h n (by omega)).1]; exact prs_un ρ i sh n (fun s hs => h s (by omega))
theorem prs_val (ρ : Row) {i : Nat} (hi : i < 6) (sh : Nat → Int32) (j : Nat) : ∀ n, n ≤ 6 → prs ρ i sh n j = ρ j ∨ ∃ s, s < n ∧ prs ρ i sh n j = ρ j + sh s
  | 0, _ => Or.inl rfl
  | n + 1, hn => by
    rw [prs]
    by_cases e1 : j = 70 + 6 * n + i
    · subst e1
      rw [am_up_eq, prs_un ρ i sh n (fun s hs => by omega)]
      exact Or.inr ⟨n, by omega, rfl⟩
    · rw [am_up_ne e1]
      by_cases e2 : j = 10 + 10 * n + 8
      · subst e2
        rw [am_up_eq, prs_un ρ i sh n (fun s hs => by omega)]
        exact Or.inr ⟨n, by omega, rfl⟩
      · rw [am_up_ne e2]
        rcases prs_val ρ hi sh j n (by omega) with z | ⟨s, hs, z⟩
        · exact Or.inl z
        · exact Or.inr ⟨s, by omega, z⟩
theorem add_rg {B : Nat} {x : Int32} {m : Nat} (hB : B + 999 < 2147483648) (hx : 0 ≤ x.toInt ∧ x.toInt ≤ B) (hm : m ≤ 999) : 0 ≤ (x + nI m).toInt ∧ (x + nI m).toInt ≤ ((B + 999 : Nat) : Int) := by
  have h0 : (0 : Int32) ≤ x := Int32.le_iff_toInt_le.mpr (by have : (0 : Int32).toInt = 0 := rfl; omega)
  obtain ⟨e1, e2⟩ := nn_of h0
  have e3 : x.toNatClampNeg = x.toInt.toNat := rfl
  rw [e1, nI_add, nn_toInt (by omega)]
  omega
theorem prs_ok {B : Nat} {ρ : Row} (h : okR B ρ) (hB : B + 999 < 2147483648) {i : Nat} (hi : i < 6) {sh : Nat → Int32} (hsh : ∀ s, s < 6 → ∃ m, m ≤ 999 ∧ sh s = nI m) : okR (B + 999) (prs ρ i sh 6) := by
  refine okR.of (h.ov.cg (prs_ag ρ hi sh 6 (Nat.le_refl _))) fun j hj hs => ?_
  have h1 := (h j hj).1 hs
  rcases prs_val ρ hi sh j 6 (Nat.le_refl _) with z | ⟨s, hs', z⟩
  · rw [z]; omega
  · obtain ⟨m, hm, e⟩ := hsh s hs'
    rw [z, e]
    exact add_rg hB h1 hm
theorem sldA_okR {B : Nat} {ρ : Row} (h : okR B ρ) {s : Nat} (hs : s < 6) : okR B (sldA ρ s) := by
  refine okR.of (sldA_ok h.ov hs) fun j hj hst => ?_
  have e : sldA ρ s j = ρ j := by
    unfold sldA
    rcases h.ov.below hs with e | ⟨b, hb1, hb2, e⟩
    · rw [if_pos e]
      unfold stp at hst
      split
      · rw [am_up_ne (by omega)]
      · rw [am_up_ne (by omega)]
    · unfold stp at hst
      rw [e, if_neg (nI_m1ne (by omega)), pe_clamp (by omega), am_up_ne (by omega)]
  rw [e]
  exact (h j hj).1 hst
theorem mvp_okR {B : Nat} {ρ : Row} (h : okR B ρ) {s : Nat} (hs : s < 6) : ∀ n, n ≤ 6 → okR B (mvp ρ s n)
  | 0, _ => h
  | n + 1, hn => by
    have ih := mvp_okR h hs n (by omega)
    have hv := (ih (70 + 6 * s + n) (by omega)).1 (by unfold stp; omega)
    exact (ih.up ⟨fun _ => hv, fun z => absurd (by unfold stp; omega) z⟩).up (okB_0 B (by unfold stp; omega))
/-- how often each slope slid, up to C -/
def x9le (C : Nat) (ρ : Row) : Prop := ∀ s, s < 6 → (ρ (10 + 10 * s + 9)).toInt ≤ C
theorem okR.x9 {B : Nat} {ρ : Row} (h : okR B ρ) : x9le B ρ := fun s hs => ((h (10 + 10 * s + 9) (by omega)).1 (by unfold stp; omega)).2
theorem mvp_un (ρ : Row) (s : Nat) {j : Nat} (hs : s < 6) (hj : j < 70) : ∀ n, n ≤ 6 → mvp ρ s n j = ρ j
  | 0, _ => rfl
  | n + 1, hn => by rw [mvp, am_up_ne (by omega), am_up_ne (by omega)]; exact mvp_un ρ s hs hj n (by omega)
theorem sldA_9 {ρ : Row} (h : okV ρ) {s t : Nat} (hs : s < 6) : sldA ρ s (10 + 10 * t + 9) = ρ (10 + 10 * t + 9) := by
  unfold sldA
  rcases h.below hs with e | ⟨b, hb1, hb2, e⟩
  · rw [if_pos e]
    split
    · rw [am_up_ne (by omega)]
    · rw [am_up_ne (by omega)]
  · rw [e, if_neg (nI_m1ne (by omega)), pe_clamp (by omega), am_up_ne (by omega)]
theorem sld1_9 {ρ : Row} (h : okV ρ) {s t : Nat} (hs : s < 6) (ht : t < 6) : sld1 ρ s (10 + 10 * t + 9) = if t = s then ρ (10 + 10 * t + 9) + nI 1 else ρ (10 + 10 * t + 9) := by
  unfold sld1
  rw [mvp_un _ s hs (by omega) 6 (Nat.le_refl _)]
  unfold sldB
  by_cases e : t = s
  · subst e
    rw [am_up_eq, if_pos rfl, sldA_9 h hs]
  · rw [am_up_ne (by omega), am_up_ne (by omega), am_up_ne (by omega), if_neg e, sldA_9 h hs]
theorem sld1_okR {B C : Nat} {ρ : Row} (h : okR B ρ) (hx : x9le C ρ) (hC : C + 1 ≤ B) (hB : B < 2147483648) {s : Nat} (hs : s < 6) : okR B (sld1 ρ s) ∧ x9le (C + 1) (sld1 ρ s) := by
  have h9 := (h (10 + 10 * s + 9) (by omega)).1 (by unfold stp; omega)
  have hx9 := hx s hs
  have e1 : (ρ (10 + 10 * s + 9) + nI 1).toInt = (ρ (10 + 10 * s + 9)).toInt + 1 := by
    have : (nI 1).toInt = 1 := rfl
    rw [Int32.toInt_add, this]
    exact Int.bmod_eq_of_le (by omega) (by omega)
  refine ⟨mvp_okR ?_ hs 6 (Nat.le_refl _), fun t ht => ?_⟩
  · have hA := sldA_okR h hs
    refine ((hA.up (okB_n (by unfold stp; omega) (okAt_sn (m := 0) hs (by decide)))).up (okB_0 B (by unfold stp; omega))).up ⟨fun _ => ?_, fun z => absurd (by unfold stp; omega) z⟩
    rw [sldA_9 h.ov hs, e1]
    omega
  · rw [sld1_9 h.ov hs ht]
    have := hx t ht
    by_cases e : t = s
    · subst e; rw [if_pos rfl, e1]; omega
    · rw [if_neg e]; omega
theorem sldU_okR {B : Nat} (hB : B < 2147483648) : ∀ (d s C : Nat) (ρ : Row), s + d = 6 → okR B ρ → x9le C ρ → C + d ≤ B → okR B (sldU d s ρ).2
  | 0, _, _, _, _, h, _, _ => h
  | d + 1, s, C, ρ, hd, h, hx, hC => by
    rw [sldU]
    split
    · obtain ⟨a1, a2⟩ := sld1_okR h hx (by omega) hB (show s < 6 by omega)
      exact sldU_okR hB d (s + 1) (C + 1) _ (by omega) a1 a2 (by omega)
    · exact sldU_okR hB d (s + 1) C _ (by omega) h hx (by omega)
theorem sldU_le : ∀ (d s : Nat) (ρ : Row), (sldU d s ρ).1 ≤ d
  | 0, _, _ => Nat.le_refl _
  | d + 1, s, ρ => by
    rw [sldU]
    split
    · have := sldU_le d (s + 1) (sld1 ρ s); show (sldU d (s + 1) (sld1 ρ s)).1 + 1 ≤ d + 1; omega
    · have := sldU_le d (s + 1) ρ; omega
theorem sayP_ok {B : Nat} {q : Option pLw} {ρ : Row} (h : okR B ρ) (hB : B + 999 < 2147483648) {i w p l : Nat} (hi : i < 6) (hw : w < 16) (hp : p < 4) (hl : l ≤ 3) : okR (B + 999) (sayP q ρ i w p l).2 := sldU_okR (by omega) 6 0 B _ rfl (prs_ok h hB hi fun s hs => shk_rg h.ov hw hp hl hs) (fun s hs => by rw [prs_un ρ i _ 6 (fun t ht => by omega)]; exact h.x9 s hs) (by omega)
theorem dwn_okR {B : Nat} {q : Option pLw} {ρ : Row} (h : okR B ρ) (hd : ρ 6 < nI 999) : okR B (dwn q ρ) := by
  refine okR.of (dwn_ok h.ov hd) fun j hj hst => ?_
  have h1 := (h j hj).1 hst
  unfold dwn eas
  unfold stp at hst
  by_cases h2 : (10 ≤ j ∧ j < 70 ∧ (j - 10) % 10 = 8) ∨ (70 ≤ j ∧ j < 106)
  · rw [if_pos h2]
    have : (nI 0).toInt = 0 := rfl
    omega
  · rw [if_neg h2, dwnN_at q ρ 6 (Nat.le_refl _) j (fun s hs => by omega), am_up_ne (by omega)]
    exact h1
theorem dwnP_ok {B : Nat} {q : Option pLw} {ρ : Row} (h : okR B ρ) (hB : B + 999 < 2147483648) (hd : ρ 6 < nI 999) : okR (B + 999) (dwnP q ρ).2 := sldU_okR (by omega) 6 0 B _ rfl ((dwn_okR h hd).le (by omega)) (dwn_okR h hd).x9 (by omega)
/-! the relation -/
theorem om_rows : ∀ q ∈ om, (q.1.1 = 2 → q.1.2 < 259 ∧ q.2 = (vA 1 2 q.1.2, vS q.1.2)) ∧ (q.1.1 ≠ 2 → q.2.1 ≠ 37 ∧ q.2.1 ≠ 38 ∧ ¬ (2 ≤ q.2.1 ∧ q.2.1 ≤ 7) ∧ q.1.1 ≠ 21 ∧ q.1.1 ≠ 22 ∧ ¬ (q.1.1 = 0 ∧ (q.1.2 = 34 ∨ q.1.2 = 38))) := by decide +kernel
theorem RelM.rows {B B1 t : Nat} {gc gr gc1 gr1 : am_G} (h : RelM B t gc gr) (hB : B ≤ B1) (hc : Fc 2 gc gc1) (hr : FrW gr gr1) (e : vr gc1 1 2 = rr gr1) (hI : okR B1 (rr gr1)) : RelM B1 t gc1 gr1 := by
  have hR := h.1
  have hI0 := h.2.1
  have eP : am_P gc1 = am_P gc := congrArg (fun z => z.2.1) hc.1
  have eS : am_S gc1 = am_S gc := congrArg (fun z => z.2.2.1) hc.1
  have en : am_n gc1 = am_n gc := congrArg (fun z => z.2.2.2.1) hc.1
  have es : am_s gc1 = am_s gc := congrArg (fun z => z.2.2.2.2) hc.1
  have enr : am_n gr1 = am_n gr := congrArg (fun z => z.2.2.1) hr.2.2
  have esr : am_s gr1 = am_s gr := congrArg (fun z => z.2.2.2) hr.2.2
  have cI : ∀ a, ¬ (2 ≤ a ∧ a ≤ 7) → a ≠ 37 → a ≠ 38 → am_I gc1 a = am_I gc a := fun a h1 h2 h3 => hc.2 a (by omega) h2 h3
  have rI : ∀ a, a ≠ 0 → a ≠ 2 → a ≠ 21 → a ≠ 22 → am_I gr1 a = am_I gr a := fun a h1 h2 h3 h4 => funext fun k => hr.1 a k h3 h4 (by omega) (by omega)
  have rL : ∀ a, a ≠ 0 → a ≠ 18 → a ≠ 20 → am_L gr1 a = am_L gr a := fun a h1 h2 h3 => funext fun k => hr.2.1 a k h3 h2 (by omega)
  refine h.step hB (Nat.le_refl _) ⟨fun q hq => ?_, ⟨fun j hj => by rw [← rr_at hj]; exact hI j hj, ?_, ?_, ?_⟩, ⟨by rw [cI 26 (by omega) (by decide) (by decide)], cI 28 (by omega) (by decide) (by decide), cI 30 (by omega) (by decide) (by decide), cI 72 (by omega) (by decide) (by decide), cI 76 (by omega) (by decide) (by decide), fun a ha => cI a (by omega) (by omega) (by omega), eP, eS, en, es⟩, ⟨rI 3 (by decide) (by decide) (by decide) (by decide), rI 4 (by decide) (by decide) (by decide) (by decide), rI 5 (by decide) (by decide) (by decide) (by decide), rI 6 (by decide) (by decide) (by decide) (by decide), rI 9 (by decide) (by decide) (by decide) (by decide), rI 34 (by decide) (by decide) (by decide) (by decide), fun j hj => hr.1 2 j (by decide) (by decide) (by omega) (by unfold pkj; omega), rL 15 (by decide) (by decide) (by decide), rL 16 (by decide) (by decide) (by decide), rL 17 (by decide) (by decide) (by decide), enr, esr⟩, Or.inr ⟨hr.1 0 8 (by decide) (by decide) (by omega) (by omega), fun j hj => hr.1 2 j (by decide) (by decide) (by omega) (by unfold pkj; unfold npk at hj; omega)⟩⟩
  · obtain ⟨o1, o2⟩ := om_rows q hq
    by_cases h2 : q.1.1 = 2
    · obtain ⟨z1, z2⟩ := o1 h2
      have := congrFun e q.1.2
      rw [vr_at z1, rr_at z1] at this
      rw [h2, z2]
      exact this
    · obtain ⟨z1, z2, z3, z4, z5, z6⟩ := o2 h2
      rw [cI _ z3 z1 z2, hr.1 _ _ z4 z5 z6 (by omega)]
      exact hR q hq
  · rw [hr.1 2 5 (by decide) (by decide) (by omega) (by unfold pkj; omega), hr.1 2 4 (by decide) (by decide) (by omega) (by unfold pkj; omega)]
    exact hI0.2.1
  · rw [hr.1 0 13 (by decide) (by decide) (by omega) (by omega)]
    exact hI0.2.2.1
  · rw [hr.1 0 8 (by decide) (by decide) (by omega) (by omega)]
    exact hI0.2.2.2
theorem RelM.scr {B t : Nat} {gc gr gc1 gr1 : am_G} (h : RelM B t gc gr) (hc : FcA gc gc1) (hr : FrS gr gr1) : RelM B t gc1 gr1 := by
  have er : rr gr1 = rr gr := rr_cg (hr.row (by decide))
  refine h.rows (Nat.le_refl _) hc.Fc hr.W ?_ (by rw [er]; exact h.2.1.okR)
  rw [er, ← h.1.row]
  exact vr_cg fun a ha => hc.2 a (by omega) (by omega)
theorem RelM.pk {B t : Nat} {gc gr : am_G} (h : RelM B t gc gr) : PkS gc 2 := by
  obtain ⟨hR, hI, own, hU, hG, hT, hC, hW, nl, hnl, enl, hLw⟩ := h
  exact hC.2.1.2.1
/-- a word is said, on both sides -/
theorem RelM.say {B t i w pl l : Nat} {gc gr : am_G} {q : Option pLw} (h : RelM B t gc gr) (hB : B + 999 < 2147483648) (hq : LawC gc q) (hq' : LawR (am_I gr 2) q) (hi : i < 6) (hw : w < 16) (hpl : pl < 4) (hl : l ≤ 3) : ∃ gc1 gr1, fX11_utter 2 (nI i) (nI w) (nI pl) (nI l) gc = some (nI (sayP q (rr gr) i w pl l).1, gc1) ∧ fX12_sayIt (nI i) (nI w) (nI pl) (nI l) gr = some (nI (sayP q (rr gr) i w pl l).1, gr1) ∧ RelM (B + 999) t gc1 gr1 ∧ rr gr1 = (sayP q (rr gr) i w pl l).2 ∧ LawC gc1 q ∧ LawR (am_I gr1 2) q ∧ Fc 2 gc gc1 ∧ FrW gr gr1 := by
  have hO := h.2.1.okR
  obtain ⟨gc1, e1, r1, f1⟩ := q11_utter (p := 2) (ρ := rr gr) (Or.inl rfl) hi hw hpl hl h.pk hq h.1.row hO.ov
  obtain ⟨gr1, e2, r2, f2⟩ := q12_sayIt (ρ := rr gr) hi hw hpl hl hq' h.ord rfl hO.ov
  exact ⟨gc1, gr1, e1, e2, h.rows (by omega) f1 f2 (by rw [r1, r2]) (by rw [r2]; exact sayP_ok hO hB hi hw hpl hl), r2, hq.fcp (Or.inl rfl) f1, hq'.fw f2, f1, f2⟩
theorem RelM.night {B t : Nat} {gc gr : am_G} {q : Option pLw} (h : RelM B t gc gr) (hB : B + 999 < 2147483648) (hq : LawC gc q) (hq' : LawR (am_I gr 2) q) (hd : rr gr 6 < nI 999) : ∃ gc1 gr1, fX11_passNight 2 gc = some (nI (dwnP q (rr gr)).1, gc1) ∧ fX12_dawnIt gr = some (nI (dwnP q (rr gr)).1, gr1) ∧ RelM (B + 999) t gc1 gr1 ∧ rr gr1 = (dwnP q (rr gr)).2 ∧ LawC gc1 q ∧ LawR (am_I gr1 2) q ∧ Fc 2 gc gc1 ∧ FrW gr gr1 := by
  have hO := h.2.1.okR
  obtain ⟨gc1, e1, r1, f1⟩ := q11_night (p := 2) (ρ := rr gr) (Or.inl rfl) h.pk hq h.1.row hO.ov hd
  obtain ⟨gr1, e2, r2, f2⟩ := q12_dawnIt (ρ := rr gr) hq' h.ord rfl hO.ov hd
  exact ⟨gc1, gr1, e1, e2, h.rows (by omega) f1 f2 (by rw [r1, r2]) (by rw [r2]; exact dwnP_ok hO hB hd), r2, hq.fcp (Or.inl rfl) f1, hq'.fw f2, f1, f2⟩

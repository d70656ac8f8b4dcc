/-! ===== the cells as a row ===== -/
abbrev Row : Type := Nat → Int32
def vT (j : Nat) : Bool × Nat × Nat :=
  if j = 0 then (false, 11, 4) else if j < 6 then (false, 0, 13 + j) else if j = 6 then (true, 0, 5) else if j = 7 then (false, 0, 19) else if j < 10 then (true, 0, j - 2)
  else if j < 70 then (if (j - 10) % 10 = 0 then (true, 1, (j - 10) / 10) else if (j - 10) % 10 = 1 then (false, 7, (j - 10) / 10) else if (j - 10) % 10 = 2 then (false, 8, (j - 10) / 10) else if (j - 10) % 10 = 3 then (false, 9, (j - 10) / 10) else if (j - 10) % 10 = 8 then (true, 2, (j - 10) / 10) else if (j - 10) % 10 = 9 then (true, 5, (j - 10) / 10) else (false, 10, 4 * ((j - 10) / 10) + (j - 10) % 10 - 4))
  else if j < 106 then (true, 3, j - 70) else if j < 142 then (true, 4, j - 106) else if j < 206 then (false, 12 + (j - 142) % 4, (j - 142) / 4) else if j < 211 then (false, 16, j - 206) else if j < 229 then (false, 17 + (j - 211) % 3, (j - 211) / 3) else (false, 20 + (j - 229) % 3, (j - 229) / 3)
def vC (j : Nat) : Nat := (if (vT j).1 then 1000000 else 0) + (vT j).2.1 * 1000 + (vT j).2.2
theorem vC_nd : ((List.range 259).map vC).Nodup := by decide +kernel
theorem vT_sm : ∀ j, j < 259 → ((vT j).1 = true → (vT j).2.1 ≤ 5) ∧ ((vT j).1 = false → (vT j).2.1 = 0 ∨ (7 ≤ (vT j).2.1 ∧ (vT j).2.1 ≤ 22)) ∧ (vT j).2.2 < 1000 := by decide +kernel
def vA (v p j : Nat) : Nat := if (vT j).1 then p + (vT j).2.1 else v + (vT j).2.1
def vS (j : Nat) : Nat := (vT j).2.2
def VP (v p : Nat) : Prop := p = v + 1 ∨ v + 23 < p ∨ p + 5 < v
theorem vT_inj {i j : Nat} (hi : i < 259) (hj : j < 259) (h : vT i = vT j) : i = j := nd_inj vC_nd (List.mem_range.mpr hi) (List.mem_range.mpr hj) (by unfold vC; rw [h])
theorem vA_inj {v p i j : Nat} (hv : VP v p) (hi : i < 259) (hj : j < 259) (h1 : vA v p i = vA v p j) (h2 : vS i = vS j) : i = j := by
  refine vT_inj hi hj ?_
  obtain ⟨a1, a2, -⟩ := vT_sm i hi
  obtain ⟨b1, b2, -⟩ := vT_sm j hj
  unfold vA at h1
  unfold vS at h2
  unfold VP at hv
  cases hc : (vT i).1 <;> cases hd : (vT j).1 <;> rw [hc, hd] at h1 <;> simp only [if_true, if_false, Bool.false_eq_true] at h1
  · exact Prod.ext (hc.trans hd.symm) (Prod.ext (by omega) h2)
  · have := a2 hc; have := b1 hd; omega
  · have := a1 hc; have := b2 hd; omega
  · exact Prod.ext (hc.trans hd.symm) (Prod.ext (by omega) h2)
def vr (g : am_G) (v p : Nat) : Row := fun j => if j < 259 then am_I g (vA v p j) (vS j) else 0
def rr (g : am_G) : Row := fun j => if j < 259 then am_I g 2 j else 0
theorem vr_at {g : am_G} {v p j : Nat} (hj : j < 259) : vr g v p j = am_I g (vA v p j) (vS j) := if_pos hj
theorem rr_at {g : am_G} {j : Nat} (hj : j < 259) : rr g j = am_I g 2 j := if_pos hj
theorem vr_up {g : am_G} {v p j : Nat} (hv : VP v p) (hj : j < 259) (x : Int32) : vr (am_si g (vA v p j) (vS j) x) v p = am_up (vr g v p) j x := by
  funext i
  by_cases hi : i < 259
  · rw [vr_at hi, pI_si]
    by_cases e : i = j
    · subst e
      rw [if_pos ⟨rfl, rfl⟩, am_up_eq]
    · rw [if_neg (fun z => e (vA_inj hv hi hj z.1 z.2)), am_up_ne e, vr_at hi]
  · unfold vr
    rw [if_neg hi, am_up_ne (show i ≠ j by omega), if_neg hi]
theorem rr_up {g : am_G} {j : Nat} (hj : j < 259) (x : Int32) : rr (am_si g 2 j x) = am_up (rr g) j x := by
  funext i
  by_cases hi : i < 259
  · rw [rr_at hi, pI_si]
    by_cases e : i = j
    · subst e
      rw [if_pos ⟨rfl, rfl⟩, am_up_eq]
    · rw [if_neg (fun z => e z.2), am_up_ne e, rr_at hi]
  · unfold rr
    rw [if_neg hi, am_up_ne (show i ≠ j by omega), if_neg hi]
theorem vA_rg {v p j : Nat} (hj : j < 259) : (p ≤ vA v p j ∧ vA v p j ≤ p + 5) ∨ (v ≤ vA v p j ∧ vA v p j ≤ v + 22) := by
  obtain ⟨a1, a2, -⟩ := vT_sm j hj
  unfold vA
  cases hc : (vT j).1
  · have := a2 hc; simp only [if_false, Bool.false_eq_true]; omega
  · have := a1 hc; simp only [if_true]; omega
theorem vr_cg {g g' : am_G} {v p : Nat} (h : ∀ a, (p ≤ a ∧ a ≤ p + 5) ∨ (v ≤ a ∧ a ≤ v + 22) → am_I g' a = am_I g a) : vr g' v p = vr g v p := by
  funext j
  by_cases hj : j < 259
  · rw [vr_at hj, vr_at hj, h _ (vA_rg hj)]
  · unfold vr; rw [if_neg hj, if_neg hj]
theorem rr_cg {g g' : am_G} (h : am_I g' 2 = am_I g 2) : rr g' = rr g := by unfold rr; rw [h]
/-! where the places lie, v = 1 -/
theorem vT_s : ∀ s, s < 6 → vT (10 + 10 * s + 0) = (true, 1, s) ∧ vT (10 + 10 * s + 1) = (false, 7, s) ∧ vT (10 + 10 * s + 2) = (false, 8, s) ∧ vT (10 + 10 * s + 3) = (false, 9, s) ∧ vT (10 + 10 * s + 8) = (true, 2, s) ∧ vT (10 + 10 * s + 9) = (true, 5, s) := by decide +kernel
theorem vT_f : ∀ s, s < 6 → ∀ p, p < 4 → vT (10 + 10 * s + (4 + p)) = (false, 10, s * 4 + p) := by decide +kernel
theorem vT_p : ∀ s, s < 6 → ∀ i, i < 6 → vT (70 + 6 * s + i) = (true, 3, s * 6 + i) ∧ vT (106 + 6 * s + i) = (true, 4, s * 6 + i) := by decide +kernel
theorem vT_w : ∀ w, w < 16 → ∀ c, c < 4 → vT (142 + 4 * w + c) = (false, 12 + c, w) := by decide +kernel
theorem va_t {v p j b s : Nat} (h : vT j = (true, b, s)) : vA v p j = p + b ∧ vS j = s := by unfold vA vS; rw [h]; exact ⟨rfl, rfl⟩
theorem va_f {v p j b s : Nat} (h : vT j = (false, b, s)) : vA v p j = v + b ∧ vS j = s := by unfold vA vS; rw [h]; exact ⟨rfl, rfl⟩
theorem vr_t {g : am_G} {v p j b s : Nat} (hj : j < 259) (h : vT j = (true, b, s)) : am_I g (p + b) s = vr g v p j := by rw [vr_at hj, (va_t (v := v) (p := p) h).1, (va_t (v := v) (p := p) h).2]
theorem vr_f {g : am_G} {v p j b s : Nat} (hj : j < 259) (h : vT j = (false, b, s)) : am_I g (v + b) s = vr g v p j := by rw [vr_at hj, (va_f (v := v) (p := p) h).1, (va_f (v := v) (p := p) h).2]
theorem vr_tu {g : am_G} {v p j b s : Nat} (hv : VP v p) (hj : j < 259) (h : vT j = (true, b, s)) (x : Int32) : vr (am_si g (p + b) s x) v p = am_up (vr g v p) j x := by rw [← vr_up hv hj x, (va_t (v := v) (p := p) h).1, (va_t (v := v) (p := p) h).2]
theorem vr_fu {g : am_G} {v p j b s : Nat} (hv : VP v p) (hj : j < 259) (h : vT j = (false, b, s)) (x : Int32) : vr (am_si g (v + b) s x) v p = am_up (vr g v p) j x := by rw [← vr_up hv hj x, (va_f (v := v) (p := p) h).1, (va_f (v := v) (p := p) h).2]
/-! ===== what a saying and a dawn do to a row ===== -/
def pkj (k : Nat) : Prop := k = 6 ∨ k = 8 ∨ k = 9 ∨ (10 ≤ k ∧ k < 70 ∧ ((k - 10) % 10 = 0 ∨ (k - 10) % 10 = 8 ∨ (k - 10) % 10 = 9)) ∨ (70 ≤ k ∧ k < 142)
def prs (ρ : Row) (i : Nat) (sh : Nat → Int32) : Nat → Row
  | 0 => ρ
  | n + 1 => am_up (am_up (prs ρ i sh n) (10 + 10 * n + 8) (prs ρ i sh n (10 + 10 * n + 8) + sh n)) (70 + 6 * n + i) (prs ρ i sh n (70 + 6 * n + i) + sh n)
def mvp (ρ : Row) (s : Nat) : Nat → Row
  | 0 => ρ
  | n + 1 => am_up (am_up (mvp ρ s n) (106 + 6 * s + n) (mvp ρ s n (70 + 6 * s + n))) (70 + 6 * s + n) (nI 0)
def sldA (ρ : Row) (s : Nat) : Row := if ρ (10 + 10 * s + 2) = -1 then (if ρ (10 + 10 * s + 3) = nI 1 then am_up ρ 9 (ρ 9 + ρ (10 + 10 * s + 0)) else am_up ρ 8 (ρ 8 + ρ (10 + 10 * s + 0))) else am_up ρ (10 + 10 * (ρ (10 + 10 * s + 2)).toNatClampNeg + 0) (am_min (nI 9999) (ρ (10 + 10 * (ρ (10 + 10 * s + 2)).toNatClampNeg + 0) + ρ (10 + 10 * s + 0)))
def sldB (ρ : Row) (s : Nat) : Row := am_up (am_up (am_up ρ (10 + 10 * s + 0) (nI 0)) (10 + 10 * s + 8) (nI 0)) (10 + 10 * s + 9) (ρ (10 + 10 * s + 9) + nI 1)
def sld1 (ρ : Row) (s : Nat) : Row := mvp (sldB (sldA ρ s) s) s 6
def unst (ρ : Row) (s : Nat) : Bool := decide (nI 0 < ρ (10 + 10 * s + 0)) && decide (ρ (10 + 10 * s + 1) < ρ (10 + 10 * s + 0) + ρ (10 + 10 * s + 8))
def sldU : Nat → Nat → Row → Nat × Row
  | 0, _, ρ => (0, ρ)
  | n + 1, s, ρ => if unst ρ s then ((sldU n (s + 1) (sld1 ρ s)).1 + 1, (sldU n (s + 1) (sld1 ρ s)).2) else sldU n (s + 1) ρ
def sayP (q : Option pLw) (ρ : Row) (i w p l : Nat) : Nat × Row := sldU 6 0 (prs ρ i (shk q ρ w p l) 6)
/-- the snow of a slope behind a dawn -/
def nsn (q : Option pLw) (ρ : Row) (s : Nat) : Int32 := am_max (nI 0) (am_min (nI 9999) (ρ (10 + 10 * s + 0) + fll q (am_up ρ 6 (ρ 6 + nI 1)) s - thw q (am_up ρ 6 (ρ 6 + nI 1)) s))
def dwnN (q : Option pLw) (ρ : Row) : Nat → Row
  | 0 => am_up ρ 6 (ρ 6 + nI 1)
  | n + 1 => am_up (dwnN q ρ n) (10 + 10 * n + 0) (nsn q ρ n)
def eas (ρ : Row) : Row := fun j => if (10 ≤ j ∧ j < 70 ∧ (j - 10) % 10 = 8) ∨ (70 ≤ j ∧ j < 106) then nI 0 else ρ j
/-- behind a dawn, before the slides -/
def dwn (q : Option pLw) (ρ : Row) : Row := eas (dwnN q ρ 6)
def dwnP (q : Option pLw) (ρ : Row) : Nat × Row := sldU 6 0 (dwn q ρ)
/-! on what they rest -/
def agV (ρ ρ' : Row) : Prop := ∀ j, j < 259 → ¬ stp j → ρ j = ρ' j
theorem eS_cg {ρ ρ' : Row} (h : agV ρ ρ') {w p s : Nat} (l : Nat) (hw : w < 16) (hp : p < 4) (hs : s < 6) : eS ρ w p l s = eS ρ' w p l s := by
  unfold eS
  rw [h (142 + 4 * w + 0) (by omega) (by unfold stp; omega), h (142 + 4 * w + 1) (by omega) (by unfold stp; omega), h (10 + 10 * s + (4 + p)) (by omega) (by unfold stp; omega), h (10 + 10 * s + 0) (by omega) (by unfold stp; omega), h 7 (by omega) (by unfold stp; omega), h 6 (by omega) (by unfold stp; omega)]
theorem eB_cg {ρ ρ' : Row} (h : agV ρ ρ') {w : Nat} (p l : Nat) (hw : w < 16) : eB ρ w p l = eB ρ' w p l := by
  unfold eB
  rw [h (142 + 4 * w + 0) (by omega) (by unfold stp; omega), h (142 + 4 * w + 1) (by omega) (by unfold stp; omega), h 7 (by omega) (by unfold stp; omega), h 6 (by omega) (by unfold stp; omega)]
theorem eW_cg {ρ ρ' : Row} (h : agV ρ ρ') {s : Nat} (hs : s < 6) : eW ρ s = eW ρ' s := by
  unfold eW
  rw [h (10 + 10 * s + 0) (by omega) (by unfold stp; omega), h 7 (by omega) (by unfold stp; omega), h 6 (by omega) (by unfold stp; omega)]
theorem shk_cg {q : Option pLw} {ρ ρ' : Row} (h : agV ρ ρ') {w p s : Nat} (l : Nat) (hw : w < 16) (hp : p < 4) (hs : s < 6) : shk q ρ w p l s = shk q ρ' w p l s := by
  unfold shk
  rw [eS_cg h l hw hp hs, h (142 + 4 * w + 0) (by omega) (by unfold stp; omega), h (10 + 10 * s + (4 + p)) (by omega) (by unfold stp; omega)]
theorem brd_cg {q : Option pLw} {ρ ρ' : Row} (h : agV ρ ρ') {w : Nat} (p l : Nat) (hw : w < 16) : brd q ρ w p l = brd q ρ' w p l := by
  unfold brd
  rw [eB_cg h p l hw]
theorem fll_cg {q : Option pLw} {ρ ρ' : Row} (h : agV ρ ρ') {s : Nat} (hs : s < 6) : fll q ρ s = fll q ρ' s := by unfold fll; rw [eW_cg h hs]
theorem thw_cg {q : Option pLw} {ρ ρ' : Row} (h : agV ρ ρ') {s : Nat} (hs : s < 6) : thw q ρ s = thw q ρ' s := by unfold thw; rw [eW_cg h hs]
theorem agV.rf (ρ : Row) : agV ρ ρ := fun _ _ _ => rfl
theorem agV.sy {ρ ρ' : Row} (h : agV ρ ρ') : agV ρ' ρ := fun j h1 h2 => (h j h1 h2).symm
theorem agV.up {ρ ρ' : Row} (h : agV ρ ρ') {j : Nat} (hj : stp j) (x : Int32) : agV (am_up ρ j x) ρ' := fun i h1 h2 => by rw [am_up_ne (show i ≠ j from fun e => h2 (by rw [e]; exact hj))]; exact h i h1 h2
theorem prs_ag (ρ : Row) {i : Nat} (hi : i < 6) (sh : Nat → Int32) : ∀ n, n ≤ 6 → agV (prs ρ i sh n) ρ
  | 0, _ => agV.rf ρ
  | n + 1, hn => ((prs_ag ρ hi sh n (by omega)).up (by unfold stp; omega) _).up (by unfold stp; omega) _
theorem agV_rr (g : am_G) : agV (rr g) (am_I g 2) := fun j hj _ => rr_at hj
theorem prs_cg {ρ : Row} {i : Nat} {sh sh' : Nat → Int32} : ∀ n, (∀ s, s < n → sh s = sh' s) → prs ρ i sh n = prs ρ i sh' n
  | 0, _ => rfl
  | n + 1, h => by rw [prs, prs, prs_cg n (fun s hs => h s (by omega)), h n (by omega)]

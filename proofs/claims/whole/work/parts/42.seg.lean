/-! ===== a stretch of steps says D ===== -/
def SegC (st : Nat → Int32) (a b d : Nat) (D : pD) : Prop :=
  a < b ∧ ∀ (k : Int32 → am_G → Option (Int32 × am_G)) (p ns : Nat) (g : am_G) (n top x : Nat), am_S g p = (20, ns) → b ≤ ns → ns ≤ 512 → p ≠ 38 → (∀ i, a ≤ i → i < b → am_I g p i = st i) → top + d ≤ 50 → x + (b - a) ≤ 512 → b - a ≤ n →
    (∀ v, D (am_I g 37) = some v → ∃ (n' x' : Nat) (f : Nat → Int32), fX0_value_L8 k p n (nI top) (nI a) (nI x) g = fX0_value_L8 k p n' (nI (top + 1)) (nI b) (nI x') (am_sr g 38 f) ∧ f top = v ∧ (∀ j, j < top → f j = am_I g 38 j) ∧ x' ≤ x + (b - a) ∧ n ≤ n' + (b - a)) ∧
    (D (am_I g 37) = none → ∃ f : Nat → Int32, fX0_value_L8 k p n (nI top) (nI a) (nI x) g = some (pBR, am_sr g 38 f))
theorem sr_sr (g : am_G) (a : Nat) (f f' : Nat → Int32) : am_sr (am_sr g a f) a f' = am_sr g a f' := by
  have e : am_I (am_sr (am_sr g a f) a f') = am_I (am_sr g a f') := by
    funext b
    by_cases h : b = a
    · subst h; rw [pI_sr_row, pI_sr_row]
    · rw [pI_sr_ne _ _ h, pI_sr_ne _ _ h, pI_sr_ne _ _ h]
  exact Prod.ext e rfl
theorem sr_self (g : am_G) (a : Nat) : am_sr g a (am_I g a) = g := by
  have e : am_I (am_sr g a (am_I g a)) = am_I g := by
    funext b
    by_cases h : b = a
    · subst h; rw [pI_sr_row]
    · rw [pI_sr_ne _ _ h]
  exact Prod.ext e rfl
theorem si_sr (g : am_G) (a : Nat) (f : Nat → Int32) (k : Nat) (x : Int32) : am_si (am_sr g a f) a k x = am_sr g a (am_up f k x) := by
  show am_sr (am_sr g a f) a (am_up (am_I (am_sr g a f) a) k x) = _
  rw [sr_sr, pI_sr_row]
theorem SegC.num {st : Nat → Int32} {a m : Nat} (hst : st a = nI m) (hm : m < 14336) (hk : m / 1024 = 1) : SegC st a (a + 1) 1 (fun _ => some (nI (m % 1024))) := by
  refine ⟨by omega, fun k p ns g n top x hS hb hn hp hc ht hx hf => ⟨fun v hv => ?_, fun h => absurd h (by simp)⟩⟩
  obtain ⟨n, rfl⟩ : ∃ n', n = n' + 1 := ⟨n - 1, by omega⟩
  refine ⟨n, x + 1, am_up (am_I g 38) top (nI (m % 1024)), VL_num hS (by omega) hn ((hc a (Nat.le_refl _) (by omega)).trans hst) hm hk (by omega) (by omega), ?_, fun j hj => am_up_ne (by omega), by omega, by omega⟩
  rw [am_up_eq]
  exact Option.some.inj hv
theorem SegC.kn {st : Nat → Int32} {a m : Nat} (hst : st a = nI m) (hm : m < 14336) (hk : m / 1024 = 2) (hw : m % 1024 < 40) : SegC st a (a + 1) 1 (fun K => some (K (m % 1024))) := by
  refine ⟨by omega, fun k p ns g n top x hS hb hn hp hc ht hx hf => ⟨fun v hv => ?_, fun h => absurd h (by simp)⟩⟩
  obtain ⟨n, rfl⟩ : ∃ n', n = n' + 1 := ⟨n - 1, by omega⟩
  refine ⟨n, x + 1, am_up (am_I g 38) top (am_I g 37 (m % 1024)), VL_kn hS (by omega) hn ((hc a (Nat.le_refl _) (by omega)).trans hst) hm hk hw (by omega) (by omega), ?_, fun j hj => am_up_ne (by omega), by omega, by omega⟩
  rw [am_up_eq]
  exact Option.some.inj hv
def dNot (D : pD) : pD := fun K => (D K).map fun v => nI 1 - v
def dAnd (D E : pD) : pD := fun K => (D K).bind fun v => if v = nI 0 then some v else E K
def dOr (D E : pD) : pD := fun K => (D K).bind fun v => if v = nI 1 then some v else E K
def dBin (o : Nat) (D E : pD) : pD := fun K => (D K).bind fun v => (E K).bind fun w => jv o v w
theorem SegC.not {st : Nat → Int32} {a b d m : Nat} {D : pD} (h : SegC st a b d D) (hd : 0 < d) (hst : st b = nI m) (hm : m < 14336) (hk : m / 1024 = 3) : SegC st a (b + 1) d (dNot D) := by
  obtain ⟨hab, h⟩ := h
  refine ⟨by omega, fun k p ns g n top x hS hb hn hp hc ht hx hf => ?_⟩
  obtain ⟨h1, h2⟩ := h k p ns g n top x hS (by omega) hn hp (fun i h1 h2 => hc i h1 (by omega)) ht (by omega) (by omega)
  refine ⟨fun v hv => ?_, fun hv => ?_⟩
  · unfold dNot at hv
    cases hD : D (am_I g 37) with
    | none => rw [hD] at hv; exact absurd hv (by simp)
    | some u =>
      rw [hD] at hv
      obtain ⟨n', x', f, e, ef, ej, ex, en⟩ := h1 u hD
      obtain ⟨n', rfl⟩ : ∃ n'', n' = n'' + 1 := ⟨n' - 1, by omega⟩
      rw [e, VL_not (m := m) (by exact hS) (by omega) hn (by rw [pI_sr_ne _ _ hp]; exact (hc b (by omega) (by omega)).trans hst) hm hk (by omega) (by omega), si_sr, pI_sr_row, ef]
      refine ⟨n', x' + 1, _, rfl, ?_, fun j hj => ?_, by omega, by omega⟩
      · rw [am_up_eq]
        exact Option.some.inj hv
      · rw [am_up_ne (by omega)]
        exact ej j hj
  · unfold dNot at hv
    cases hD : D (am_I g 37) with
    | none => exact h2 hD
    | some u => rw [hD] at hv; exact absurd hv (by simp)
theorem SegC.and {st : Nat → Int32} {a b c d e m : Nat} {D E : pD} (h : SegC st a b d D) (hd : 0 < d) (h' : SegC st (b + 1) c e E) (hst : st b = nI m) (hm : m < 14336) (hk : m / 1024 = 4) (hw : m % 1024 = c) : SegC st a c (max d e) (dAnd D E) := by
  obtain ⟨hab, h⟩ := h
  obtain ⟨hbc, h'⟩ := h'
  refine ⟨by omega, fun k p ns g n top x hS hb hn hp hc ht hx hf => ?_⟩
  obtain ⟨h1, h2⟩ := h k p ns g n top x hS (by omega) hn hp (fun i h1 h2 => hc i h1 (by omega)) (by omega) (by omega) (by omega)
  cases hD : D (am_I g 37) with
  | none =>
    refine ⟨fun v hv => ?_, fun hv => h2 hD⟩
    unfold dAnd at hv; rw [hD] at hv; exact absurd hv (by simp)
  | some u =>
    obtain ⟨n', x', f, q, ef, ej, ex, en⟩ := h1 u hD
    obtain ⟨n', rfl⟩ : ∃ n'', n' = n'' + 1 := ⟨n' - 1, by omega⟩
    have e0 : dAnd D E (am_I g 37) = if u = nI 0 then some u else E (am_I g 37) := by unfold dAnd; rw [hD]; rfl
    have hcb : am_I (am_sr g 38 f) p b = nI m := by rw [pI_sr_ne _ _ hp]; exact (hc b (by omega) (by omega)).trans hst
    by_cases hu : u = nI 0
    · rw [e0, if_pos hu, q, VL_andJ (m := m) (by exact hS) (by omega) hn hcb hm hk (by omega) (by omega) (by rw [pI_sr_row, ef]; exact hu), hw]
      exact ⟨fun v hv => ⟨n', x' + 1, f, rfl, by rw [ef]; exact Option.some.inj hv, ej, by omega, by omega⟩, fun hv => absurd hv (by simp)⟩
    · rw [e0, if_neg hu, q, VL_andP (m := m) (by exact hS) (by omega) hn hcb hm hk (by omega) (by omega) (by rw [pI_sr_row, ef]; exact hu)]
      obtain ⟨h3, h4⟩ := h' k p ns (am_sr g 38 f) n' top (x' + 1) hS (by omega) hn hp (fun i h1 h2 => by rw [pI_sr_ne _ _ hp]; exact hc i (by omega) h2) (by omega) (by omega) (by omega)
      rw [pI_sr_ne _ _ (by decide)] at h3 h4
      refine ⟨fun v hv => ?_, fun hv => ?_⟩
      · obtain ⟨n2, x2, f2, q2, ef2, ej2, ex2, en2⟩ := h3 v hv
        rw [q2, sr_sr]
        refine ⟨n2, x2, f2, rfl, ef2, fun j hj => ?_, by omega, by omega⟩
        rw [ej2 j hj, pI_sr_row]
        exact ej j hj
      · obtain ⟨f2, q2⟩ := h4 hv
        exact ⟨f2, by rw [q2, sr_sr]⟩
theorem SegC.or {st : Nat → Int32} {a b c d e m : Nat} {D E : pD} (h : SegC st a b d D) (hd : 0 < d) (h' : SegC st (b + 1) c e E) (hst : st b = nI m) (hm : m < 14336) (hk : m / 1024 = 5) (hw : m % 1024 = c) : SegC st a c (max d e) (dOr D E) := by
  obtain ⟨hab, h⟩ := h
  obtain ⟨hbc, h'⟩ := h'
  refine ⟨by omega, fun k p ns g n top x hS hb hn hp hc ht hx hf => ?_⟩
  obtain ⟨h1, h2⟩ := h k p ns g n top x hS (by omega) hn hp (fun i h1 h2 => hc i h1 (by omega)) (by omega) (by omega) (by omega)
  cases hD : D (am_I g 37) with
  | none =>
    refine ⟨fun v hv => ?_, fun hv => h2 hD⟩
    unfold dOr at hv; rw [hD] at hv; exact absurd hv (by simp)
  | some u =>
    obtain ⟨n', x', f, q, ef, ej, ex, en⟩ := h1 u hD
    obtain ⟨n', rfl⟩ : ∃ n'', n' = n'' + 1 := ⟨n' - 1, by omega⟩
    have e0 : dOr D E (am_I g 37) = if u = nI 1 then some u else E (am_I g 37) := by unfold dOr; rw [hD]; rfl
    have hcb : am_I (am_sr g 38 f) p b = nI m := by rw [pI_sr_ne _ _ hp]; exact (hc b (by omega) (by omega)).trans hst
    by_cases hu : u = nI 1
    · rw [e0, if_pos hu, q, VL_orJ (m := m) (by exact hS) (by omega) hn hcb hm hk (by omega) (by omega) (by rw [pI_sr_row, ef]; exact hu), hw]
      exact ⟨fun v hv => ⟨n', x' + 1, f, rfl, by rw [ef]; exact Option.some.inj hv, ej, by omega, by omega⟩, fun hv => absurd hv (by simp)⟩
    · rw [e0, if_neg hu, q, VL_orP (m := m) (by exact hS) (by omega) hn hcb hm hk (by omega) (by omega) (by rw [pI_sr_row, ef]; exact hu)]
      obtain ⟨h3, h4⟩ := h' k p ns (am_sr g 38 f) n' top (x' + 1) hS (by omega) hn hp (fun i h1 h2 => by rw [pI_sr_ne _ _ hp]; exact hc i (by omega) h2) (by omega) (by omega) (by omega)
      rw [pI_sr_ne _ _ (by decide)] at h3 h4
      refine ⟨fun v hv => ?_, fun hv => ?_⟩
      · obtain ⟨n2, x2, f2, q2, ef2, ej2, ex2, en2⟩ := h3 v hv
        rw [q2, sr_sr]
        refine ⟨n2, x2, f2, rfl, ef2, fun j hj => ?_, by omega, by omega⟩
        rw [ej2 j hj, pI_sr_row]
        exact ej j hj
      · obtain ⟨f2, q2⟩ := h4 hv
        exact ⟨f2, by rw [q2, sr_sr]⟩
theorem SegC.bin {st : Nat → Int32} {a b c d e m o : Nat} {D E : pD} (h : SegC st a b d D) (h' : SegC st b c e E) (he : 0 < e) (hst : st c = nI m) (hm : m < 14336) (ho : o < 8) (hk : m / 1024 = 6 + o) : SegC st a (c + 1) (max d (e + 1)) (dBin o D E) := by
  obtain ⟨hab, h⟩ := h
  obtain ⟨hbc, h'⟩ := h'
  refine ⟨by omega, fun k p ns g n top x hS hb hn hp hc ht hx hf => ?_⟩
  obtain ⟨h1, h2⟩ := h k p ns g n top x hS (by omega) hn hp (fun i h1 h2 => hc i h1 (by omega)) (by omega) (by omega) (by omega)
  cases hD : D (am_I g 37) with
  | none =>
    refine ⟨fun v hv => ?_, fun hv => h2 hD⟩
    unfold dBin at hv; rw [hD] at hv; exact absurd hv (by simp)
  | some u =>
    obtain ⟨n', x', f, q, ef, ej, ex, en⟩ := h1 u hD
    obtain ⟨h3, h4⟩ := h' k p ns (am_sr g 38 f) n' (top + 1) x' hS (by omega) hn hp (fun i h1 h2 => by rw [pI_sr_ne _ _ hp]; exact hc i (by omega) (by omega)) (by omega) (by omega) (by omega)
    rw [pI_sr_ne _ _ (by decide)] at h3 h4
    cases hE : E (am_I g 37) with
    | none =>
      refine ⟨fun v hv => ?_, fun hv => ?_⟩
      · unfold dBin at hv; rw [hD, hE] at hv; exact absurd hv (by simp)
      · obtain ⟨f2, q2⟩ := h4 hE
        exact ⟨f2, by rw [q, q2, sr_sr]⟩
    | some w =>
      obtain ⟨n2, x2, f2, q2, ef2, ej2, ex2, en2⟩ := h3 w hE
      obtain ⟨n2, rfl⟩ : ∃ n'', n2 = n'' + 1 := ⟨n2 - 1, by omega⟩
      rw [sr_sr] at q2
      have e0 : dBin o D E (am_I g 37) = jv o u w := by unfold dBin; rw [hD, hE]; rfl
      have hcb : am_I (am_sr g 38 f2) p c = nI m := by rw [pI_sr_ne _ _ hp]; exact (hc c (by omega) (by omega)).trans hst
      have et : f2 top = u := by rw [ej2 top (by omega), pI_sr_row, ef]
      rw [e0, q, q2]
      refine ⟨fun v hv => ?_, fun hv => ?_⟩
      · rw [VL_binS (m := m) (by exact hS) (by omega) hn hcb hm ho hk (by omega) (by omega) (by rw [pI_sr_row, et, ef2]; exact hv), si_sr]
        refine ⟨n2, x2 + 1, _, rfl, am_up_eq, fun j hj => ?_, by omega, by omega⟩
        rw [am_up_ne (by omega), ej2 j (by omega), pI_sr_row]
        exact ej j hj
      · exact ⟨f2, VL_binN (m := m) (by exact hS) (by omega) hn hcb hm ho hk (by omega) (by omega) (by rw [pI_sr_row, et, ef2]; exact hv)⟩
theorem SegC.mono {st st' : Nat → Int32} {a b d d' : Nat} {D : pD} (h : SegC st a b d D) (hd : d ≤ d') (he : ∀ i, a ≤ i → i < b → st' i = st i) : SegC st' a b d' D :=
  ⟨h.1, fun k p ns g n top x hS hb hn hp hc ht hx hf => h.2 k p ns g n top x hS hb hn hp (fun i h1 h2 => (hc i h1 h2).trans (he i h1 h2)) (by omega) hx hf⟩
/-- a whole sum or test -/
def ValC (st : Nat → Int32) (ns a : Nat) (D : pD) : Prop := ∃ b d m, SegC st a b d D ∧ d ≤ 50 ∧ b < ns ∧ ns ≤ 512 ∧ st b = nI m ∧ m < 1024
theorem ValC.run {st : Nat → Int32} {ns a : Nat} {D : pD} (h : ValC st ns a D) {p : Nat} {g : am_G} (hS : am_S g p = (20, ns)) (hp : p ≠ 38) (hc : ∀ i, i < ns → am_I g p i = st i) : ∃ f : Nat → Int32, fX0_value p (nI a) g = some ((D (am_I g 37)).getD pBR, am_sr g 38 f) := by
  obtain ⟨b, d, m, hseg, hd, hb, hn, hm, hm1⟩ := h
  have hab := hseg.1
  unfold fX0_value
  rw [show (0 : Int32) = nI 0 from rfl]
  obtain ⟨h1, h2⟩ := hseg.2 (fun (x70 : Int32) (g71 : am_G) =>
    if x70 ≤ nI 0 then (
      some ((-2147483648 : Int32), g71))
    else (
      am_gd (am_in (nI 0) 50) <|
      some (am_I g71 38 (nI 0).toNatClampNeg, g71))) p ns g am_fu 0 0 hS (by omega) hn hp (fun i h1 h2 => hc i (by omega)) (by omega) (by omega) (by have : am_fu = 1048576 := rfl; omega)
  cases hD : D (am_I g 37) with
  | none =>
    obtain ⟨f, q⟩ := h2 hD
    exact ⟨f, q⟩
  | some v =>
    obtain ⟨n', x', f, q, ef, ej, ex, en⟩ := h1 v hD
    obtain ⟨n', rfl⟩ : ∃ n'', n' = n'' + 1 := ⟨n' - 1, by have : am_fu = 1048576 := rfl; omega⟩
    refine ⟨f, ?_⟩
    rw [q, VL_end (m := m) (by exact hS) (by omega) hn (by rw [pI_sr_ne _ _ hp]; exact (hc b (by omega)).trans hm) hm1 (by omega), if_neg (by decide), pu_gd (by decide), pI_sr_row]
    show some (f 0, _) = _
    rw [ef]
    rfl

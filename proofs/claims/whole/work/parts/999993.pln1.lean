/-! ===== plan: rows of days, pure ===== -/
theorem sldU_z : ∀ (d s : Nat) (ρ : Row), (sldU d s ρ).1 = 0 ↔ ∀ t, s ≤ t → t < s + d → unst ρ t = false
  | 0, s, ρ => ⟨fun _ t h1 h2 => absurd h2 (by omega), fun _ => rfl⟩
  | d + 1, s, ρ => by
    rw [sldU]
    by_cases e : unst ρ s = true
    · rw [if_pos e]
      constructor
      · intro h
        exact absurd (show (sldU d (s + 1) (sld1 ρ s)).1 + 1 = 0 from h) (by omega)
      · intro h
        rw [h s (Nat.le_refl _) (by omega)] at e
        exact absurd e (by decide)
    · rw [if_neg e, sldU_z d (s + 1) ρ]
      constructor
      · intro h t h1 h2
        by_cases z : t = s
        · subst z; exact Bool.eq_false_iff.mpr e
        · exact h t (by omega) (by omega)
      · intro h t h1 h2
        exact h t (by omega) (by omega)
theorem sldU_e : ∀ (d s : Nat) (ρ : Row), (sldU d s ρ).1 = 0 → (sldU d s ρ).2 = ρ
  | 0, s, ρ, _ => rfl
  | d + 1, s, ρ, h => by
    rw [sldU] at h ⊢
    by_cases e : unst ρ s = true
    · rw [if_pos e] at h
      exact absurd (show (sldU d (s + 1) (sld1 ρ s)).1 + 1 = 0 from h) (by omega)
    · rw [if_neg e] at h ⊢
      exact sldU_e d (s + 1) ρ h
/-- the same but for strain and its parts -/
def agE (ρ ρ' : Row) : Prop := ∀ j, ¬ ((10 ≤ j ∧ j < 70 ∧ (j - 10) % 10 = 8) ∨ (70 ≤ j ∧ j < 106)) → ρ j = ρ' j
theorem agE.rf (ρ : Row) : agE ρ ρ := fun _ _ => rfl
theorem agE.tr {ρ ρ' ρ'' : Row} (h : agE ρ ρ') (h' : agE ρ' ρ'') : agE ρ ρ'' := fun j hj => (h j hj).trans (h' j hj)
theorem agE.V {ρ ρ' : Row} (h : agE ρ ρ') : agV ρ ρ' := fun j _ hs => h j (fun z => hs (by unfold stp; omega))
theorem agE.up {ρ ρ' : Row} (h : agE ρ ρ') (j : Nat) (x : Int32) : agE (am_up ρ j x) (am_up ρ' j x) := fun i hi => by
  by_cases e : i = j
  · subst e; rw [am_up_eq, am_up_eq]
  · rw [am_up_ne e, am_up_ne e]; exact h i hi
theorem dwnN_E {q : Option pLw} {ρ ρ' : Row} (h : agE ρ ρ') : ∀ n, n ≤ 6 → agE (dwnN q ρ n) (dwnN q ρ' n)
  | 0, _ => by
    rw [dwnN, dwnN, h 6 (by omega)]
    exact h.up 6 _
  | n + 1, hn => by
    have h6 : agV (am_up ρ 6 (ρ' 6 + nI 1)) (am_up ρ' 6 (ρ' 6 + nI 1)) := (h.up 6 _).V
    have e : nsn q ρ n = nsn q ρ' n := by
      unfold nsn
      rw [h (10 + 10 * n + 0) (by omega), h 6 (by omega), fll_cg h6 (by omega), thw_cg h6 (by omega)]
    rw [dwnN, dwnN, e]
    exact (dwnN_E h n (by omega)).up _ _
theorem dwn_E {q : Option pLw} {ρ ρ' : Row} (h : agE ρ ρ') : dwn q ρ = dwn q ρ' := by
  funext j
  unfold dwn eas
  by_cases e : (10 ≤ j ∧ j < 70 ∧ (j - 10) % 10 = 8) ∨ (70 ≤ j ∧ j < 106)
  · rw [if_pos e, if_pos e]
  · rw [if_neg e, if_neg e]
    exact dwnN_E h 6 (Nat.le_refl _) j e
theorem prs_E (ρ : Row) {i : Nat} (hi : i < 6) (sh : Nat → Int32) {n : Nat} (hn : n ≤ 6) : agE (prs ρ i sh n) ρ := fun j hj => prs_un ρ i sh n fun s hs => by omega
theorem prs_st (ρ : Row) {i : Nat} (hi : i < 6) (sh : Nat → Int32) {s : Nat} : ∀ n, n ≤ 6 → s < n → prs ρ i sh n (10 + 10 * s + 8) = ρ (10 + 10 * s + 8) + sh s
  | 0, _, h => absurd h (by omega)
  | n + 1, hn, h => by
    rw [prs, am_up_ne (by omega)]
    by_cases e : s = n
    · subst e
      rw [am_up_eq, prs_un ρ i sh s (fun t ht => by omega)]
    · rw [am_up_ne (by omega)]
      exact prs_st ρ hi sh n (by omega) (by omega)
/-! how many, and the first -/
abbrev StQ := Nat × (Nat → Nat)
def upQ (st : StQ) (c : Nat → Nat) : StQ := (st.1 + 1, if st.1 = 0 then c else st.2)
def fldQ (P : (Nat → Nat) → Bool) : StQ → List (Nat → Nat) → StQ
  | st, [] => st
  | st, c :: L => fldQ P (if P c = true then upQ st c else st) L
theorem fldQ_app (P : (Nat → Nat) → Bool) : ∀ (L M : List (Nat → Nat)) (st : StQ), fldQ P st (L ++ M) = fldQ P (fldQ P st L) M
  | [], M, st => rfl
  | c :: L, M, st => by rw [List.cons_append, fldQ, fldQ, fldQ_app P L M]
theorem fldQ_no {P : (Nat → Nat) → Bool} : ∀ {L : List (Nat → Nat)} {st : StQ}, (∀ c, c ∈ L → ¬ P c = true) → fldQ P st L = st
  | [], st, _ => rfl
  | c :: L, st, h => by
    rw [fldQ, if_neg (h c List.mem_cons_self)]
    exact fldQ_no fun d hd => h d (List.mem_cons_of_mem _ hd)
theorem fldQ_le {P : (Nat → Nat) → Bool} : ∀ (L : List (Nat → Nat)) (st : StQ), (fldQ P st L).1 ≤ st.1 + L.length
  | [], st => Nat.le_refl _
  | c :: L, st => by
    have := fldQ_le (P := P) L (if P c = true then upQ st c else st)
    rw [fldQ, List.length_cons]
    by_cases e : P c = true
    · rw [if_pos e] at this ⊢
      have e1 : (upQ st c).1 = st.1 + 1 := rfl
      omega
    · rw [if_neg e] at this ⊢
      omega
def tt3 : Nat → (Nat → Nat) → Nat → Bool := fun _ _ _ => true
theorem fldQ_prune {N T : Nat} {A : Nat → (Nat → Nat) → Nat → Bool} {P : (Nat → Nat) → Bool} (hP : ∀ e, P e = true → ∀ k, k < T → A k e (e k) = true) (hA : ∀ k c c' w, (∀ j, j < k → c j = c' j) → A k c w = A k c' w) : ∀ (d k : Nat) (c : Nat → Nat) (st : StQ), k + d = T → fldQ P st (rwL N tt3 d k c) = fldQ P st (rwL N A d k c)
  | 0, k, c, st, _ => rfl
  | d + 1, k, c, st, hk => by
    rw [rwL, rwL]
    have key : ∀ m w st, fldQ P st (rwP tt3 (fun w => rwL N tt3 d (k + 1) (cup c k w)) k c m w) = fldQ P st (rwP A (fun w => rwL N A d (k + 1) (cup c k w)) k c m w) := by
      intro m
      induction m with
      | zero => intro w st; rfl
      | succ m ih =>
        intro w st
        rw [rwP, rwP, if_pos (show tt3 k c w = true from rfl), fldQ_app, fldQ_app, ih]
        congr 1
        by_cases e : A k c w = true
        · rw [if_pos e]
          exact fldQ_prune hP hA d (k + 1) _ st (by omega)
        · rw [if_neg e]
          refine fldQ_no fun x hx hp => e ?_
          have h1 := hP x hp k (by omega)
          have h2 := (rwL_pre hx).1
          have h3 := h2 k (by omega)
          rw [cup_eq] at h3
          rw [h3] at h1
          rw [hA k c x w fun j hj => ?_]
          · exact h1
          · rw [h2 j (by omega), cup_ne (by omega)]
    exact key N 0 st
/-! rows by their number -/
def rowO (N d k : Nat) (c : Nat → Nat) (i : Nat) : Nat → Nat := fun j => if k ≤ j ∧ j < k + d then i / N ^ (k + d - 1 - j) % N else c j
def lsR (f : Nat → Nat → Nat) : Nat → Nat → List (Nat → Nat)
  | 0, _ => []
  | m + 1, i => f i :: lsR f m (i + 1)
theorem lsR_app (f : Nat → Nat → Nat) : ∀ (m m' i : Nat), lsR f (m + m') i = lsR f m i ++ lsR f m' (i + m)
  | 0, m', i => by rw [Nat.zero_add, Nat.add_zero]; rfl
  | m + 1, m', i => by
    rw [show m + 1 + m' = (m + m') + 1 by omega, lsR, lsR, lsR_app f m m' (i + 1), List.cons_append, show i + 1 + m = i + (m + 1) by omega]
theorem lsR_cg {f g : Nat → Nat → Nat} : ∀ {m a b : Nat}, (∀ i, i < m → f (a + i) = g (b + i)) → lsR f m a = lsR g m b
  | 0, a, b, _ => rfl
  | m + 1, a, b, h => by
    have h0 := h 0 (by omega)
    rw [Nat.add_zero, Nat.add_zero] at h0
    rw [lsR, lsR, h0, lsR_cg (m := m) (a := a + 1) (b := b + 1) fun i hi => by
      have := h (i + 1) (by omega)
      rw [show a + 1 + i = a + (i + 1) by omega, show b + 1 + i = b + (i + 1) by omega]
      exact this]
theorem rowO_st {N d k w i : Nat} {c : Nat → Nat} (hw : w < N) (hi : i < N ^ d) : rowO N d (k + 1) (cup c k w) i = rowO N (d + 1) k c (w * N ^ d + i) := by
  have hN : 0 < N := by omega
  funext j
  unfold rowO
  by_cases h1 : k + 1 ≤ j ∧ j < k + 1 + d
  · rw [if_pos h1, if_pos (by omega)]
    have hp : 0 < N ^ (k + d - j) := Nat.pow_pos hN
    rw [show k + 1 + d - 1 - j = k + d - j by omega, show k + (d + 1) - 1 - j = k + d - j by omega]
    have e1 : w * N ^ d = N * (w * N ^ (j - k - 1)) * N ^ (k + d - j) := by
      rw [show d = 1 + ((j - k - 1) + (k + d - j)) by omega]
      rw [Nat.pow_add, Nat.pow_add, Nat.pow_one]
      rw [show 1 + (j - k - 1 + (k + d - j)) = d by omega, ← Nat.mul_assoc, ← Nat.mul_assoc, Nat.mul_comm w N, ← Nat.mul_assoc]
    rw [e1, Nat.add_comm (N * (w * N ^ (j - k - 1)) * N ^ (k + d - j)) i, Nat.add_mul_div_right _ _ hp, Nat.add_mul_mod_self_left]
  · rw [if_neg h1]
    by_cases h2 : j = k
    · subst h2
      rw [cup_eq, if_pos (by omega), show j + (d + 1) - 1 - j = d by omega]
      have hp : 0 < N ^ d := Nat.pow_pos hN
      rw [Nat.add_comm (w * N ^ d) i, Nat.add_mul_div_right _ _ hp, Nat.div_eq_of_lt hi, Nat.zero_add, Nat.mod_eq_of_lt hw]
    · rw [cup_ne h2, if_neg (by omega)]
theorem rwL_lsR {N : Nat} (hN : 0 < N) : ∀ (d k : Nat) (c : Nat → Nat), rwL N tt3 d k c = lsR (rowO N d k c) (N ^ d) 0
  | 0, k, c => by
    rw [rwL, Nat.pow_zero, lsR, lsR]
    congr 1
    funext j
    unfold rowO
    rw [if_neg (by omega)]
  | d + 1, k, c => by
    have key : ∀ m w, w + m ≤ N → rwP tt3 (fun w => rwL N tt3 d (k + 1) (cup c k w)) k c m w = lsR (rowO N (d + 1) k c) (m * N ^ d) (w * N ^ d) := by
      intro m
      induction m with
      | zero => intro w _; rw [Nat.zero_mul]; rfl
      | succ m ih =>
        intro w hw
        rw [rwP, if_pos (show tt3 k c w = true from rfl), ih (w + 1) (by omega), rwL_lsR hN d (k + 1), show (m + 1) * N ^ d = N ^ d + m * N ^ d by rw [Nat.add_mul, Nat.one_mul, Nat.add_comm], lsR_app, show (w + 1) * N ^ d = w * N ^ d + N ^ d by rw [Nat.add_mul, Nat.one_mul]]
        congr 1
        refine lsR_cg fun i hi => ?_
        rw [Nat.zero_add]
        exact rowO_st (by omega) hi
    rw [rwL, key N 0 (by omega), Nat.zero_mul, Nat.pow_succ, Nat.mul_comm]
theorem lsR_len (f : Nat → Nat → Nat) : ∀ m i, (lsR f m i).length = m
  | 0, _ => rfl
  | m + 1, i => by rw [lsR, List.length_cons, lsR_len f m (i + 1)]
theorem rwL_len {N : Nat} {A : Nat → (Nat → Nat) → Nat → Bool} : ∀ (d k : Nat) (c : Nat → Nat), (rwL N A d k c).length ≤ N ^ d
  | 0, k, c => Nat.le_refl _
  | d + 1, k, c => by
    have key : ∀ m w, (rwP A (fun w => rwL N A d (k + 1) (cup c k w)) k c m w).length ≤ m * N ^ d := by
      intro m
      induction m with
      | zero => intro w; rw [rwP, Nat.zero_mul]; exact Nat.le_refl _
      | succ m ih =>
        intro w
        have h1 := ih (w + 1)
        have h2 := rwL_len (N := N) (A := A) d (k + 1) (cup c k w)
        rw [rwP, List.length_append, Nat.add_mul, Nat.one_mul]
        by_cases e : A k c w = true
        · rw [if_pos e]; omega
        · rw [if_neg e, List.length_nil]; omega
    rw [rwL, Nat.pow_succ, Nat.mul_comm]
    exact key N 0

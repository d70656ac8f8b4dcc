/-! ===== rows of words, counted ===== -/
def smW (n : Nat) (f : Nat → Nat) : Nat := match n with
  | 0 => 0
  | n + 1 => smW n f + f n
theorem smW_cg {n : Nat} {f g : Nat → Nat} (h : ∀ w, w < n → f w = g w) : smW n f = smW n g := by
  induction n with
  | zero => rfl
  | succ n ih => rw [smW, smW, ih (fun w hw => h w (by omega)), h n (by omega)]
theorem smW_add (n : Nat) (f g : Nat → Nat) : smW n (fun w => f w + g w) = smW n f + smW n g := by
  induction n with
  | zero => rfl
  | succ n ih => rw [smW, smW, smW, ih]; omega
theorem smW_mul (n a : Nat) (f : Nat → Nat) : smW n (fun w => a * f w) = a * smW n f := by
  induction n with
  | zero => rfl
  | succ n ih => rw [smW, smW, ih, Nat.mul_add]
theorem smW_0 (n : Nat) : smW n (fun _ => 0) = 0 := by
  induction n with
  | zero => rfl
  | succ n ih => rw [smW, ih]
theorem smW_one {n y : Nat} (hy : y < n) {f : Nat → Nat} (h : ∀ w, w < n → w ≠ y → f w = 0) : smW n f = f y := by
  induction n with
  | zero => omega
  | succ n ih =>
    rw [smW]
    by_cases e : y = n
    · subst e
      rw [smW_cg (g := fun _ => 0) (fun w hw => h w (by omega) (by omega)), smW_0, Nat.zero_add]
    · rw [ih (by omega) (fun w hw hne => h w (by omega) hne), h n (by omega) (fun z => e z.symm), Nat.add_zero]
def cup (c : Nat → Nat) (k w : Nat) : Nat → Nat := fun j => if j = k then w else c j
theorem cup_eq (c : Nat → Nat) (k w : Nat) : cup c k w k = w := if_pos rfl
theorem cup_ne {c : Nat → Nat} {k w j : Nat} (h : j ≠ k) : cup c k w j = c j := if_neg h
section RS
variable {nW : Nat}
/-- the sum over rows, from the back -/
def rs (nW : Nat) (A : Nat → (Nat → Nat) → Nat → Bool) : Nat → ((Nat → Nat) → Nat) → Nat
  | 0, F => F (fun _ => 0)
  | k + 1, F => rs nW A k (fun c => smW nW fun w => if A k c w = true then F (cup c k w) else 0)
/-- rows that A lets through -/
def inA (nW : Nat) (A : Nat → (Nat → Nat) → Nat → Bool) : Nat → (Nat → Nat) → Prop
  | 0, c => c = fun _ => 0
  | k + 1, c => ∃ c' w, inA nW A k c' ∧ w < nW ∧ A k c' w = true ∧ c = cup c' k w
theorem rs_cg {A : Nat → (Nat → Nat) → Nat → Bool} : ∀ (k : Nat) {F G : (Nat → Nat) → Nat}, (∀ c, inA nW A k c → F c = G c) → rs nW A k F = rs nW A k G
  | 0, F, G, h => h _ rfl
  | k + 1, F, G, h => by
    rw [rs, rs]
    refine rs_cg k (fun c hc => smW_cg fun w hw => ?_)
    by_cases e : A k c w = true
    · rw [if_pos e, if_pos e]
      exact h _ ⟨c, w, hc, hw, e, rfl⟩
    · rw [if_neg e, if_neg e]
theorem rs_add {A : Nat → (Nat → Nat) → Nat → Bool} : ∀ (k : Nat) (F G : (Nat → Nat) → Nat), rs nW A k (fun c => F c + G c) = rs nW A k F + rs nW A k G
  | 0, F, G => rfl
  | k + 1, F, G => by
    rw [rs, rs, rs, ← rs_add k]
    refine rs_cg k (fun c _ => ?_)
    rw [← smW_add]
    refine smW_cg fun w _ => ?_
    by_cases e : A k c w = true
    · rw [if_pos e, if_pos e, if_pos e]
    · rw [if_neg e, if_neg e, if_neg e]
theorem rs_mul {A : Nat → (Nat → Nat) → Nat → Bool} : ∀ (k a : Nat) (F : (Nat → Nat) → Nat), rs nW A k (fun c => a * F c) = a * rs nW A k F
  | 0, a, F => rfl
  | k + 1, a, F => by
    rw [rs, rs, ← rs_mul k]
    refine rs_cg k (fun c _ => ?_)
    rw [← smW_mul]
    refine smW_cg fun w _ => ?_
    by_cases e : A k c w = true
    · rw [if_pos e, if_pos e]
    · rw [if_neg e, if_neg e, Nat.mul_zero]
theorem rs_0 {A : Nat → (Nat → Nat) → Nat → Bool} (k : Nat) : rs nW A k (fun _ => 0) = 0 := by
  have := rs_mul (nW := nW) (A := A) k 0 (fun _ => 0)
  rw [Nat.zero_mul (rs nW A k fun _ => 0)] at this
  exact this
theorem rs_sm {A : Nat → (Nat → Nat) → Nat → Bool} (k : Nat) : ∀ (n : Nat) (F : Nat → (Nat → Nat) → Nat), rs nW A k (fun c => smW n (fun w => F w c)) = smW n (fun w => rs nW A k (F w))
  | 0, F => rs_0 k
  | n + 1, F => by
    rw [smW, ← rs_sm k n F, ← rs_add]
    rfl
theorem rs_if {A : Nat → (Nat → Nat) → Nat → Bool} (k : Nat) (b : Bool) (F : (Nat → Nat) → Nat) : rs nW A k (fun c => if b = true then F c else 0) = if b = true then rs nW A k F else 0 := by
  by_cases e : b = true
  · rw [if_pos e]; exact rs_cg k fun c _ => if_pos e
  · rw [if_neg e, rs_cg k (G := fun _ => 0) (fun c _ => if_neg e), rs_0]
theorem rs_rs {A A' : Nat → (Nat → Nat) → Nat → Bool} (k' : Nat) : ∀ (k : Nat) (H : (Nat → Nat) → (Nat → Nat) → Nat), rs nW A k (fun c => rs nW A' k' (fun d => H c d)) = rs nW A' k' (fun d => rs nW A k (fun c => H c d))
  | 0, H => rfl
  | k + 1, H => by
    rw [rs]
    have e : (fun c => smW nW fun w => if A k c w = true then rs nW A' k' (fun d => H (cup c k w) d) else 0) = fun c => rs nW A' k' (fun d => smW nW fun w => if A k c w = true then H (cup c k w) d else 0) := by
      funext c
      rw [rs_sm]
      refine smW_cg fun w _ => ?_
      rw [rs_if]
    rw [e, rs_rs k' k]
    rfl
end RS
/-! how often each word stands in a row -/
def cnt : Nat → (Nat → Nat) → Nat → Nat
  | 0, _, _ => 0
  | k + 1, c, x => cnt k c x + if c k = x then 1 else 0
theorem cnt_cg {c d : Nat → Nat} : ∀ {k : Nat}, (∀ j, j < k → c j = d j) → cnt k c = cnt k d
  | 0, _ => rfl
  | k + 1, h => by
    funext x
    rw [cnt, cnt, cnt_cg (k := k) (fun j hj => h j (by omega)), h k (by omega)]
theorem cnt_cup (c : Nat → Nat) (k w x : Nat) : cnt (k + 1) (cup c k w) x = cnt k c x + if w = x then 1 else 0 := by
  rw [cnt, cup_eq, cnt_cg (d := c) (fun j hj => cup_ne (by omega))]
theorem cnt_pos {c : Nat → Nat} {x : Nat} : ∀ {k : Nat}, 0 < cnt k c x → ∃ j, j < k ∧ c j = x
  | 0, h => absurd h (by rw [cnt]; omega)
  | k + 1, h => by
    rw [cnt] at h
    by_cases e : c k = x
    · exact ⟨k, by omega, e⟩
    · rw [if_neg e] at h
      obtain ⟨j, hj, ej⟩ := cnt_pos (k := k) (by omega)
      exact ⟨j, by omega, ej⟩
theorem cnt_at {c : Nat → Nat} {j : Nat} : ∀ {k : Nat}, j < k → 0 < cnt k c (c j)
  | 0, h => absurd h (by omega)
  | k + 1, h => by
    rw [cnt]
    by_cases e : j = k
    · subst e; rw [if_pos rfl]; omega
    · have := cnt_at (c := c) (k := k) (show j < k by omega)
      omega
/-- one place changed -/
theorem cnt_chg {c : Nat → Nat} {j y : Nat} : ∀ {k : Nat}, j < k → ∀ x, cnt k (cup c j y) x + (if c j = x then 1 else 0) = cnt k c x + if y = x then 1 else 0
  | 0, h => absurd h (by omega)
  | k + 1, h => by
    intro x
    by_cases e : j = k
    · subst e
      rw [cnt_cup, cnt]
      omega
    · have ih := cnt_chg (c := c) (y := y) (k := k) (show j < k by omega) x
      rw [cnt, cnt, cup_ne (fun z => e z.symm)]
      omega
/-- a sum over a row is a sum over words -/
theorem sum_cnt {nW : Nat} (f : Nat → Nat) {c : Nat → Nat} : ∀ {k : Nat}, (∀ j, j < k → c j < nW) → smW k (fun j => f (c j)) = smW nW (fun x => cnt k c x * f x)
  | 0, _ => by
    rw [smW, smW_cg (g := fun _ => 0) (fun w _ => by rw [cnt, Nat.zero_mul]), smW_0]
  | k + 1, h => by
    rw [smW, sum_cnt f (k := k) (fun j hj => h j (by omega))]
    have e : f (c k) = smW nW (fun x => (if c k = x then 1 else 0) * f x) := by
      rw [smW_one (h k (by omega)) (fun w hw hne => by rw [if_neg (fun z => hne z.symm), Nat.zero_mul]), if_pos rfl, Nat.one_mul]
    rw [e, ← smW_add]
    refine smW_cg fun x _ => ?_
    rw [cnt, Nat.add_mul]
/-! as often -/
abbrev eqv (nW : Nat) (m m' : Nat → Nat) : Prop := ∀ x, x < nW → m x = m' x
theorem eqv.sy {nW : Nat} {m m' : Nat → Nat} (h : eqv nW m m') : eqv nW m' m := fun x hx => (h x hx).symm
theorem eqv.tr {nW : Nat} {m m' m'' : Nat → Nat} (h : eqv nW m m') (h' : eqv nW m' m'') : eqv nW m m'' := fun x hx => (h x hx).trans (h' x hx)
def dn (m : Nat → Nat) (y : Nat) : Nat → Nat := fun x => if x = y then m x - 1 else m x
theorem ind_cg {p q : Prop} [Decidable p] [Decidable q] (h : p ↔ q) : (if p then 1 else 0) = (if q then 1 else 0 : Nat) := by
  by_cases e : p
  · rw [if_pos e, if_pos (h.mp e)]
  · rw [if_neg e, if_neg (fun z => e (h.mpr z))]
theorem eqv_up {nW : Nat} {c m : Nat → Nat} {k w : Nat} (hw : w < nW) : eqv nW (cnt (k + 1) (cup c k w)) m ↔ 0 < m w ∧ eqv nW (cnt k c) (dn m w) := by
  constructor
  · intro h
    have h1 := h w hw
    rw [cnt_cup, if_pos rfl] at h1
    refine ⟨by omega, fun x hx => ?_⟩
    have h2 := h x hx
    rw [cnt_cup] at h2
    unfold dn
    by_cases e : x = w
    · subst e; rw [if_pos rfl]; omega
    · rw [if_neg e]; rw [if_neg (fun z => e z.symm)] at h2; omega
  · rintro ⟨h1, h2⟩ x hx
    have h3 := h2 x hx
    rw [cnt_cup]
    unfold dn at h3
    by_cases e : x = w
    · subst e; rw [if_pos rfl] at h3 ⊢; omega
    · rw [if_neg e] at h3; rw [if_neg (fun z => e z.symm)]; omega
/-! rows that may be said, rows in order, and in how many ways a row can be put -/
section NUM
variable {nW : Nat} {op : Nat → Bool} {mg : Nat → Int32} {sy : Nat → Int32}
/-- a word that may stand at place k -/
def alW (op : Nat → Bool) (mg sy : Nat → Int32) (k : Nat) (_ : Nat → Nat) (w : Nat) : Bool := op w && decide (mg w = sy k)
def ordB (sy : Nat → Int32) (c : Nat → Nat) (k w : Nat) : Nat → Bool
  | 0 => true
  | j + 1 => ordB sy c k w j && (!decide (sy j = sy k) || decide (c j ≤ w))
/-- and not below one ahead of it with the same meaning -/
def soW (op : Nat → Bool) (mg sy : Nat → Int32) (k : Nat) (c : Nat → Nat) (w : Nat) : Bool := alW op mg sy k c w && ordB sy c k w k
theorem ordB_iff {c : Nat → Nat} {k w : Nat} : ∀ n, ordB sy c k w n = true ↔ ∀ j, j < n → sy j = sy k → c j ≤ w
  | 0 => ⟨fun _ j hj => absurd hj (by omega), fun _ => rfl⟩
  | n + 1 => by
    rw [ordB, Bool.and_eq_true, ordB_iff n, Bool.or_eq_true, Bool.not_eq_true', decide_eq_false_iff_not, decide_eq_true_iff]
    constructor
    · rintro ⟨h1, h2⟩ j hj e
      by_cases z : j = n
      · subst z
        rcases h2 with h2 | h2
        · exact absurd e h2
        · exact h2
      · exact h1 j (by omega) e
    · intro h
      refine ⟨fun j hj e => h j (by omega) e, ?_⟩
      by_cases e : sy n = sy k
      · exact Or.inr (h n (by omega) e)
      · exact Or.inl e
theorem alW_iff {k w : Nat} {c : Nat → Nat} : alW op mg sy k c w = true ↔ op w = true ∧ mg w = sy k := by
  unfold alW
  rw [Bool.and_eq_true, decide_eq_true_iff]
theorem soW_iff {k w : Nat} {c : Nat → Nat} : soW op mg sy k c w = true ↔ (op w = true ∧ mg w = sy k) ∧ ∀ j, j < k → sy j = sy k → c j ≤ w := by
  unfold soW
  rw [Bool.and_eq_true, alW_iff, ordB_iff]
/-- a row of length k -/
def isR (nW : Nat) (op : Nat → Bool) (mg sy : Nat → Int32) (k : Nat) (c : Nat → Nat) : Prop := ∀ j, j < k → c j < nW ∧ op (c j) = true ∧ mg (c j) = sy j
theorem isR.cup {k w : Nat} {c : Nat → Nat} (h : isR nW op mg sy k c) (hw : w < nW ∧ op w = true ∧ mg w = sy k) : isR nW op mg sy (k + 1) (cup c k w) := fun j hj => by
  by_cases e : j = k
  · subst e; rw [cup_eq]; exact hw
  · rw [cup_ne e]; exact h j (by omega)
theorem isR.lt {k : Nat} {c : Nat → Nat} (h : isR nW op mg sy (k + 1) c) : isR nW op mg sy k c := fun j hj => h j (by omega)
theorem inA_R : ∀ {k : Nat} {c : Nat → Nat}, inA nW (alW op mg sy) k c → isR nW op mg sy k c
  | 0, c, _ => fun j hj => absurd hj (by omega)
  | k + 1, c, ⟨c', w, h1, h2, h3, h4⟩ => by
    subst h4
    exact (inA_R h1).cup ⟨h2, alW_iff.mp h3⟩
def isO (sy : Nat → Int32) (k : Nat) (c : Nat → Nat) : Prop := ∀ i j, i < j → j < k → sy i = sy j → c i ≤ c j
theorem inS_R : ∀ {k : Nat} {c : Nat → Nat}, inA nW (soW op mg sy) k c → isR nW op mg sy k c ∧ isO sy k c
  | 0, c, _ => ⟨fun j hj => absurd hj (by omega), fun i j h1 h2 => absurd h2 (by omega)⟩
  | k + 1, c, ⟨c', w, h1, h2, h3, h4⟩ => by
    subst h4
    obtain ⟨a1, a2⟩ := inS_R h1
    obtain ⟨b1, b2⟩ := soW_iff.mp h3
    refine ⟨a1.cup ⟨h2, b1⟩, fun i j h5 h6 h7 => ?_⟩
    rw [cup_ne (show i ≠ k by omega)]
    by_cases e : j = k
    · subst e; rw [cup_eq]; exact b2 i h5 h7
    · rw [cup_ne e]; exact a2 i j h5 (by omega) h7
/-- in how many ways the words m can be put -/
def num (nW : Nat) (op : Nat → Bool) (mg sy : Nat → Int32) : Nat → (Nat → Nat) → Nat
  | 0, m => if eqv nW (fun _ => 0) m then 1 else 0
  | k + 1, m => smW nW (fun y => if alW op mg sy k m y = true then (if 0 < m y then num nW op mg sy k (dn m y) else 0) else 0)
theorem num_rs : ∀ (k : Nat) (m : Nat → Nat), num nW op mg sy k m = rs nW (alW op mg sy) k (fun d => if eqv nW (cnt k d) m then 1 else 0)
  | 0, m => rfl
  | k + 1, m => by
    rw [num, rs]
    have e : (fun c => smW nW fun w => if alW op mg sy k c w = true then (if eqv nW (cnt (k + 1) (cup c k w)) m then 1 else 0) else 0) = fun c => smW nW fun w => (if alW op mg sy k m w = true then (if 0 < m w then (if w < nW ∧ eqv nW (cnt k c) (dn m w) then 1 else 0) else 0) else 0) := by
      funext c
      refine smW_cg fun w hw => ?_
      show (if alW op mg sy k c w = true then _ else _) = (if alW op mg sy k c w = true then _ else _)
      by_cases e1 : alW op mg sy k c w = true
      · rw [if_pos e1, if_pos e1]
        by_cases e2 : 0 < m w
        · rw [if_pos e2]
          exact ind_cg ((eqv_up hw).trans ⟨fun z => ⟨hw, z.2⟩, fun z => ⟨e2, z.2⟩⟩)
        · rw [if_neg e2, if_neg (fun z => e2 ((eqv_up hw).mp z).1)]
      · rw [if_neg e1, if_neg e1]
    rw [e, rs_sm]
    refine smW_cg fun w hw => ?_
    by_cases e1 : alW op mg sy k m w = true
    · rw [if_pos e1]
      by_cases e2 : 0 < m w
      · rw [if_pos e2, num_rs k]
        refine rs_cg k fun c _ => ?_
        rw [if_pos e1, if_pos e2]
        exact ind_cg ⟨fun z => ⟨hw, z⟩, fun z => z.2⟩
      · rw [if_neg e2, rs_cg k (G := fun _ => 0) (fun c _ => by rw [if_pos e1, if_neg e2]), rs_0]
    · rw [if_neg e1, rs_cg k (G := fun _ => 0) (fun c _ => by rw [if_neg e1]), rs_0]
theorem eqv_dn {m m' : Nat → Nat} {y : Nat} (h : eqv nW m m') : eqv nW (dn m y) (dn m' y) := fun x hx => by
  unfold dn
  rw [h x hx]
theorem num_cg : ∀ {k : Nat} {m m' : Nat → Nat}, eqv nW m m' → num nW op mg sy k m = num nW op mg sy k m'
  | 0, m, m', h => by
    rw [num, num]
    exact ind_cg ⟨fun z => z.tr h, fun z => z.tr h.sy⟩
  | k + 1, m, m', h => by
    rw [num, num]
    refine smW_cg fun y hy => ?_
    rw [h y hy, num_cg (k := k) (eqv_dn (y := y) h)]
    rfl
/-! factorials -/
def fc : Nat → Nat
  | 0 => 1
  | n + 1 => (n + 1) * fc n
theorem fc_pos : ∀ n, 0 < fc n
  | 0 => by decide
  | n + 1 => Nat.mul_pos (by omega) (fc_pos n)
def fct (m : Nat → Nat) : Nat → Nat
  | 0 => 1
  | n + 1 => fct m n * fc (m n)
theorem fct_pos (m : Nat → Nat) : ∀ n, 0 < fct m n
  | 0 => by rw [fct]; decide
  | n + 1 => Nat.mul_pos (fct_pos m n) (fc_pos _)
theorem fct_cg {m m' : Nat → Nat} : ∀ {n : Nat}, eqv n m m' → fct m n = fct m' n
  | 0, _ => rfl
  | n + 1, h => by rw [fct, fct, fct_cg (n := n) (fun x hx => h x (by omega)), h n (by omega)]
theorem fct_dn {m : Nat → Nat} {y : Nat} (hm : 0 < m y) : ∀ {n : Nat}, y < n → fct m n = fct (dn m y) n * m y
  | 0, h => absurd h (by omega)
  | n + 1, h => by
    rw [fct, fct]
    by_cases e : y = n
    · subst e
      rw [fct_cg (n := y) (m := dn m y) (m' := m) (fun x hx => by unfold dn; rw [if_neg (by omega)])]
      have e2 : dn m y y = m y - 1 := if_pos rfl
      rw [e2, Nat.mul_assoc]
      congr 1
      obtain ⟨r, hr⟩ : ∃ r, m y = r + 1 := ⟨m y - 1, by omega⟩
      rw [hr, fc, Nat.mul_comm]
      rfl
    · rw [fct_dn hm (n := n) (by omega), show dn m y n = m n from if_neg (fun z => e z.symm), Nat.mul_assoc, Nat.mul_assoc, Nat.mul_comm (m y)]
/-- places up to k that mean the same as k -/
def lik (sy : Nat → Int32) (k : Nat) : Nat → Nat
  | 0 => 0
  | j + 1 => lik sy k j + if sy j = sy k then 1 else 0
def aP (sy : Nat → Int32) : Nat → Nat
  | 0 => 1
  | k + 1 => aP sy k * (lik sy k k + 1)
theorem lik_cnt {k : Nat} {c : Nat → Nat} : ∀ {n : Nat}, isR nW op mg sy n c → smW nW (fun y => if alW op mg sy k c y = true then cnt n c y else 0) = lik sy k n
  | 0, _ => by
    rw [lik, smW_cg (g := fun _ => 0) (fun y _ => by rw [cnt]; exact ite_self _), smW_0]
  | n + 1, h => by
    have ih := lik_cnt (k := k) (n := n) h.lt
    obtain ⟨h1, h2, h3⟩ := h n (by omega)
    rw [lik, ← ih]
    have e : (if sy n = sy k then 1 else 0) = smW nW (fun y => if alW op mg sy k c y = true then (if c n = y then 1 else 0) else 0) := by
      rw [smW_one h1 (fun w hw hne => by rw [if_neg (show ¬ c n = w from fun z => hne z.symm)]; exact ite_self _), if_pos (show c n = c n from rfl)]
      exact ind_cg ⟨fun z => alW_iff.mpr ⟨h2, h3.trans z⟩, fun z => h3.symm.trans (alW_iff.mp z).2⟩
    rw [e, ← smW_add]
    refine smW_cg fun y _ => ?_
    by_cases e1 : alW op mg sy k c y = true
    · rw [if_pos e1, if_pos e1, if_pos e1, cnt]
    · rw [if_neg e1, if_neg e1, if_neg e1]
/-- without one y -/
theorem rowDn {k y : Nat} {c : Nat → Nat} (h : isR nW op mg sy (k + 1) c) (hy : 0 < cnt (k + 1) c y) (hm : mg y = sy k) : ∃ c', isR nW op mg sy k c' ∧ eqv nW (cnt k c') (dn (cnt (k + 1) c) y) := by
  obtain ⟨j, hj, ej⟩ := cnt_pos hy
  by_cases e : j = k
  · subst e
    refine ⟨c, h.lt, fun x _ => ?_⟩
    unfold dn
    rw [cnt, ej]
    by_cases z : x = y
    · rw [if_pos z, if_pos z.symm]; omega
    · rw [if_neg z, if_neg (fun w => z w.symm)]; omega
  · have hjk : j < k := by omega
    refine ⟨cup c j (c k), fun i hi => ?_, fun x _ => ?_⟩
    · by_cases z : i = j
      · subst z
        obtain ⟨a1, a2, a3⟩ := h k (by omega)
        obtain ⟨b1, b2, b3⟩ := h i (by omega)
        rw [cup_eq]
        refine ⟨a1, a2, a3.trans ?_⟩
        rw [← b3, ej]
        exact hm.symm
      · rw [cup_ne z]
        exact h i (by omega)
    · have z := cnt_chg (c := c) (y := c k) hjk x
      unfold dn
      rw [cnt]
      rw [ej] at z
      by_cases w : x = y
      · rw [if_pos w]; rw [if_pos w.symm] at z; omega
      · rw [if_neg w]; rw [if_neg (fun v => w v.symm)] at z; omega
theorem num_fct : ∀ (k : Nat) (c : Nat → Nat), isR nW op mg sy k c → num nW op mg sy k (cnt k c) * fct (cnt k c) nW = aP sy k
  | 0, c, _ => by
    rw [num, if_pos (show eqv nW (fun _ => 0) (cnt 0 c) from fun _ _ => rfl), aP, Nat.one_mul]
    have : ∀ n, fct (cnt 0 c) n = 1 := fun n => by
      induction n with
      | zero => rfl
      | succ n ih => rw [fct, ih]; rfl
    exact this nW
  | k + 1, c, h => by
    rw [num, aP, ← lik_cnt (k := k) (n := k) h.lt, Nat.mul_comm (smW _ _), ← smW_mul]
    have e : (smW nW (fun y => if alW op mg sy k c y = true then cnt k c y else 0) + 1) = smW nW (fun y => if alW op mg sy k c y = true then cnt (k + 1) c y else 0) := by
      rw [lik_cnt h.lt, lik_cnt h, lik, if_pos rfl]
    rw [e, ← smW_mul]
    refine smW_cg fun y hy => ?_
    show fct (cnt (k + 1) c) nW * (if alW op mg sy k c y = true then _ else 0) = _
    by_cases e1 : alW op mg sy k c y = true
    · rw [if_pos e1, if_pos e1]
      by_cases e2 : 0 < cnt (k + 1) c y
      · rw [if_pos e2, fct_dn e2 hy]
        obtain ⟨c', r1, r2⟩ := rowDn h e2 (alW_iff.mp e1).2
        have ih := num_fct k c' r1
        rw [num_cg r2.sy, fct_cg r2.sy, Nat.mul_comm _ (num _ _ _ _ _ _), ← Nat.mul_assoc, ih]
      · rw [if_neg e2, Nat.eq_zero_of_not_pos e2, Nat.mul_zero, Nat.mul_zero]
    · rw [if_neg e1, if_neg e1, Nat.mul_zero, Nat.mul_zero]
/-- what the class reckons -/
theorem num_step {k : Nat} {c : Nat → Nat} (h : isR nW op mg sy (k + 1) c) : num nW op mg sy k (cnt k c) * (lik sy k k + 1) / (cnt k c (c k) + 1) = num nW op mg sy (k + 1) (cnt (k + 1) c) := by
  have h1 := num_fct k c h.lt
  have h2 := num_fct (k + 1) c h
  have hk := (h k (by omega)).1
  have e1 : cnt (k + 1) c (c k) = cnt k c (c k) + 1 := by rw [cnt, if_pos rfl]
  have e2 : fct (cnt (k + 1) c) nW = fct (cnt k c) nW * (cnt k c (c k) + 1) := by
    rw [fct_dn (show 0 < cnt (k + 1) c (c k) by omega) hk, e1]
    congr 1
    refine fct_cg fun x _ => ?_
    unfold dn
    rw [cnt]
    by_cases z : x = c k
    · rw [if_pos z, if_pos z.symm]; omega
    · rw [if_neg z, if_neg (fun w => z w.symm)]; omega
  rw [e2, aP, ← h1] at h2
  have h3 : num nW op mg sy (k + 1) (cnt (k + 1) c) * (cnt k c (c k) + 1) = num nW op mg sy k (cnt k c) * (lik sy k k + 1) := by
    have hp := fct_pos (cnt k c) nW
    apply Nat.eq_of_mul_eq_mul_right hp
    rw [Nat.mul_assoc, Nat.mul_comm (cnt k c (c k) + 1), h2, Nat.mul_assoc, Nat.mul_assoc, Nat.mul_comm (lik sy k k + 1)]
  rw [← h3]
  exact Nat.mul_div_cancel _ (by omega)
end NUM

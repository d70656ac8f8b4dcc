section UNI
variable {nW : Nat} {op : Nat → Bool} {mg : Nat → Int32} {sy : Nat → Int32}
theorem maxW (p : Nat → Prop) [DecidablePred p] : ∀ (n : Nat), (∃ y, y < n ∧ p y) → ∃ y, y < n ∧ p y ∧ ∀ x, x < n → p x → x ≤ y
  | 0, ⟨y, hy, _⟩ => absurd hy (by omega)
  | n + 1, ⟨y, hy, py⟩ => by
    by_cases e : p n
    · exact ⟨n, by omega, e, fun x hx _ => by omega⟩
    · have hyn : y ≠ n := fun z => e (z ▸ py)
      obtain ⟨y', h1, h2, h3⟩ := maxW p n ⟨y, by omega, py⟩
      refine ⟨y', by omega, h2, fun x hx px => ?_⟩
      have hxn : x ≠ n := fun z => e (z ▸ px)
      exact h3 x (by omega) px
theorem so_one : ∀ (k : Nat) (d m : Nat → Nat), isR nW op mg sy k d → eqv nW (cnt k d) m → rs nW (soW op mg sy) k (fun c => if eqv nW (cnt k c) m then 1 else 0) = 1
  | 0, d, m, _, h => by
    rw [rs]
    exact if_pos h
  | k + 1, d, m, hd, h => by
    obtain ⟨d1, d2, d3⟩ := hd k (by omega)
    have hmd : 0 < m (d k) := by rw [← h _ d1]; exact cnt_at (by omega)
    obtain ⟨y, y1, ⟨y2, y3⟩, y4⟩ := maxW (fun y => 0 < m y ∧ op y = true ∧ mg y = sy k) nW ⟨d k, d1, hmd, d2, d3⟩
    obtain ⟨d', r1, r2⟩ := rowDn (y := y) hd (by rw [h y y1]; exact y2) y3.2
    have ih := so_one k d' (dn m y) r1 (r2.tr (eqv_dn h))
    rw [rs]
    refine (rs_cg k fun c hc => ?_).trans ih
    obtain ⟨c1, c2⟩ := inS_R hc
    rw [smW_one y1 (fun w hw hne => ?_)]
    · by_cases e : eqv nW (cnt k c) (dn m y)
      · have hs : soW op mg sy k c y = true := soW_iff.mpr ⟨y3, fun j hj hjk => by
          obtain ⟨a1, a2, a3⟩ := c1 j hj
          have hp := cnt_at (c := c) hj
          rw [e _ a1] at hp
          refine y4 (c j) a1 ⟨?_, a2, a3.trans hjk⟩
          unfold dn at hp
          by_cases z : c j = y
          · rw [if_pos z] at hp; omega
          · rw [if_neg z] at hp; exact hp⟩
        rw [if_pos hs, if_pos e, if_pos ((eqv_up y1).mpr ⟨y2, e⟩)]
      · rw [if_neg e]
        by_cases hs : soW op mg sy k c y = true
        · rw [if_pos hs, if_neg (fun z => e ((eqv_up y1).mp z).2)]
        · rw [if_neg hs]
    · by_cases hs : soW op mg sy k c w = true
      · rw [if_pos hs, if_neg]
        intro z
        obtain ⟨z1, z2⟩ := (eqv_up hw).mp z
        obtain ⟨s1, s2⟩ := soW_iff.mp hs
        have hle := y4 w hw ⟨z1, s1⟩
        have e3 := z2 y y1
        unfold dn at e3
        rw [if_neg (fun v => hne v.symm)] at e3
        obtain ⟨j, hj, ej⟩ := cnt_pos (show 0 < cnt k c y by omega)
        have e4 := s2 j hj (by rw [← (c1 j hj).2.2, ej]; exact y3.2)
        omega
      · rw [if_neg hs]
theorem cntEq {n : Nat} {F : (Nat → Nat) → Nat} (hF : ∀ c d, isR nW op mg sy n c → isR nW op mg sy n d → eqv nW (cnt n c) (cnt n d) → F c = F d) : rs nW (alW op mg sy) n F = rs nW (soW op mg sy) n (fun c => num nW op mg sy n (cnt n c) * F c) := by
  have e1 : rs nW (soW op mg sy) n (fun c => num nW op mg sy n (cnt n c) * F c) = rs nW (soW op mg sy) n (fun c => rs nW (alW op mg sy) n (fun d => F d * if eqv nW (cnt n c) (cnt n d) then 1 else 0)) := by
    refine rs_cg n fun c hc => ?_
    rw [num_rs, Nat.mul_comm, ← rs_mul]
    refine rs_cg n fun d hd => ?_
    by_cases e : eqv nW (cnt n d) (cnt n c)
    · rw [if_pos e, if_pos e.sy, hF c d (inS_R hc).1 (inA_R hd) e.sy]
    · rw [if_neg e, if_neg (fun z => e z.sy), Nat.mul_zero, Nat.mul_zero]
  rw [e1, rs_rs]
  refine rs_cg n fun d hd => ?_
  rw [rs_mul, so_one n d (cnt n d) (inA_R hd) (fun _ _ => rfl), Nat.mul_one]
end UNI
/-! lists of rows -/
def rwP (A : Nat → (Nat → Nat) → Nat → Bool) (R : Nat → List (Nat → Nat)) (k : Nat) (c : Nat → Nat) : Nat → Nat → List (Nat → Nat)
  | 0, _ => []
  | m + 1, w => (if A k c w = true then R w else []) ++ rwP A R k c m (w + 1)
def rwL (nW : Nat) (A : Nat → (Nat → Nat) → Nat → Bool) : Nat → Nat → (Nat → Nat) → List (Nat → Nat)
  | 0, _, c => [c]
  | d + 1, k, c => rwP A (fun w => rwL nW A d (k + 1) (cup c k w)) k c nW 0
def lsum : List (Nat → Nat) → ((Nat → Nat) → Nat) → Nat
  | [], _ => 0
  | c :: L, F => F c + lsum L F
theorem lsum_app (F : (Nat → Nat) → Nat) : ∀ (L M : List (Nat → Nat)), lsum (L ++ M) F = lsum L F + lsum M F
  | [], M => by rw [List.nil_append, lsum, Nat.zero_add]
  | c :: L, M => by rw [List.cons_append, lsum, lsum, lsum_app F L M, Nat.add_assoc]
theorem lsum_cg {F G : (Nat → Nat) → Nat} : ∀ {L : List (Nat → Nat)}, (∀ c, c ∈ L → F c = G c) → lsum L F = lsum L G
  | [], _ => rfl
  | c :: L, h => by rw [lsum, lsum, h c (List.mem_cons_self), lsum_cg (L := L) fun d hd => h d (List.mem_cons_of_mem _ hd)]
theorem smW_front (f : Nat → Nat) : ∀ n, smW (n + 1) f = f 0 + smW n (fun i => f (i + 1))
  | 0 => by rw [smW, smW, smW]; omega
  | n + 1 => by rw [smW, smW_front f n, smW]; omega
theorem lsum_rwP {A : Nat → (Nat → Nat) → Nat → Bool} {R : Nat → List (Nat → Nat)} {k : Nat} {c : Nat → Nat} {F : (Nat → Nat) → Nat} : ∀ (m w : Nat), lsum (rwP A R k c m w) F = smW m (fun i => if A k c (w + i) = true then lsum (R (w + i)) F else 0)
  | 0, w => rfl
  | m + 1, w => by
    rw [rwP, lsum_app, lsum_rwP m (w + 1), smW_front, Nat.add_zero]
    congr 1
    · show lsum (if A k c w = true then R w else []) F = if A k c w = true then lsum (R w) F else 0
      by_cases e : A k c w = true
      · rw [if_pos e, if_pos e]
      · rw [if_neg e, if_neg e]; rfl
    · refine smW_cg fun i _ => ?_
      rw [show w + 1 + i = w + (i + 1) by omega]
theorem rs_list {nW : Nat} {A : Nat → (Nat → Nat) → Nat → Bool} {F : (Nat → Nat) → Nat} : ∀ (d k : Nat), rs nW A k (fun c => lsum (rwL nW A d k c) F) = rs nW A (k + d) F
  | 0, k => rs_cg k fun c _ => by rw [rwL, lsum, lsum]; rfl
  | d + 1, k => by
    rw [show k + (d + 1) = k + 1 + d by omega, ← rs_list d (k + 1), rs]
    refine rs_cg k fun c _ => ?_
    rw [rwL, lsum_rwP]
    refine smW_cg fun w _ => ?_
    rw [Nat.zero_add]
theorem lsum_rs {nW : Nat} {A : Nat → (Nat → Nat) → Nat → Bool} {F : (Nat → Nat) → Nat} (n : Nat) : lsum (rwL nW A n 0 (fun _ => 0)) F = rs nW A n F := by
  have := rs_list (nW := nW) (A := A) (F := F) n 0
  rw [rs, Nat.zero_add] at this
  exact this
/-! their order -/
def rlt (a b : Nat → Nat) : Prop := ∃ j, (∀ i, i < j → a i = b i) ∧ a j < b j
theorem rlt_as {a b : Nat → Nat} (h : rlt a b) (h' : rlt b a) : False := by
  obtain ⟨j, h1, h2⟩ := h
  obtain ⟨l, h3, h4⟩ := h'
  by_cases e : j < l
  · have := h3 j e; omega
  · by_cases e2 : l < j
    · have := h1 l e2; omega
    · obtain rfl : j = l := by omega
      omega
def incL : List (Nat → Nat) → Prop
  | [] => True
  | c :: L => (∀ d, d ∈ L → rlt c d) ∧ incL L
theorem incL_app : ∀ {L M : List (Nat → Nat)}, incL L → incL M → (∀ a b, a ∈ L → b ∈ M → rlt a b) → incL (L ++ M)
  | [], M, _, h, _ => h
  | c :: L, M, h1, h2, h3 => by
    refine ⟨fun d hd => ?_, incL_app h1.2 h2 fun a b ha hb => h3 a b (List.mem_cons_of_mem _ ha) hb⟩
    rcases List.mem_append.mp hd with z | z
    · exact h1.1 d z
    · exact h3 c d List.mem_cons_self z
theorem mem_rwP {A : Nat → (Nat → Nat) → Nat → Bool} {R : Nat → List (Nat → Nat)} {k : Nat} {c e : Nat → Nat} : ∀ {m w : Nat}, e ∈ rwP A R k c m w ↔ ∃ i, i < m ∧ A k c (w + i) = true ∧ e ∈ R (w + i)
  | 0, w => ⟨fun h => absurd h (List.not_mem_nil), fun ⟨i, hi, _⟩ => absurd hi (by omega)⟩
  | m + 1, w => by
    rw [rwP, List.mem_append, mem_rwP (m := m) (w := w + 1)]
    constructor
    · rintro (h | ⟨i, h1, h2, h3⟩)
      · by_cases z : A k c w = true
        · rw [if_pos z] at h; exact ⟨0, by omega, z, h⟩
        · rw [if_neg z] at h; exact absurd h List.not_mem_nil
      · rw [show w + 1 + i = w + (i + 1) by omega] at h2 h3
        exact ⟨i + 1, by omega, h2, h3⟩
    · rintro ⟨i, h1, h2, h3⟩
      by_cases z : i = 0
      · subst z
        rw [Nat.add_zero] at h2 h3
        exact Or.inl (by rw [if_pos h2]; exact h3)
      · refine Or.inr ⟨i - 1, by omega, ?_, ?_⟩
        · rw [show w + 1 + (i - 1) = w + i by omega]; exact h2
        · rw [show w + 1 + (i - 1) = w + i by omega]; exact h3
theorem mem_rwL {nW : Nat} {A : Nat → (Nat → Nat) → Nat → Bool} {d k : Nat} {c e : Nat → Nat} : e ∈ rwL nW A (d + 1) k c ↔ ∃ w, w < nW ∧ A k c w = true ∧ e ∈ rwL nW A d (k + 1) (cup c k w) := by
  rw [rwL, mem_rwP]
  constructor
  · rintro ⟨i, h1, h2, h3⟩
    rw [Nat.zero_add] at h2 h3
    exact ⟨i, h1, h2, h3⟩
  · rintro ⟨i, h1, h2, h3⟩
    exact ⟨i, h1, by rw [Nat.zero_add]; exact h2, by rw [Nat.zero_add]; exact h3⟩
theorem rwL_pre {nW : Nat} {A : Nat → (Nat → Nat) → Nat → Bool} : ∀ {d k : Nat} {c e : Nat → Nat}, e ∈ rwL nW A d k c → (∀ i, i < k → e i = c i) ∧ ∀ i, k + d ≤ i → e i = c i
  | 0, k, c, e, h => by
    rw [rwL] at h
    have := List.mem_singleton.mp h
    subst this
    exact ⟨fun _ _ => rfl, fun _ _ => rfl⟩
  | d + 1, k, c, e, h => by
    obtain ⟨w, h1, h2, h3⟩ := mem_rwL.mp h
    obtain ⟨a1, a2⟩ := rwL_pre h3
    exact ⟨fun i hi => by rw [a1 i (by omega), cup_ne (by omega)], fun i hi => by rw [a2 i (by omega), cup_ne (by omega)]⟩
theorem rwL_inc {nW : Nat} {A : Nat → (Nat → Nat) → Nat → Bool} : ∀ (d k : Nat) (c : Nat → Nat), incL (rwL nW A d k c)
  | 0, k, c => ⟨fun d hd => absurd hd List.not_mem_nil, trivial⟩
  | d + 1, k, c => by
    have key : ∀ m w, incL (rwP A (fun w => rwL nW A d (k + 1) (cup c k w)) k c m w) := by
      intro m
      induction m with
      | zero => intro w; exact trivial
      | succ m ih =>
        intro w
        rw [rwP]
        refine incL_app ?_ (ih (w + 1)) fun a b ha hb => ?_
        · by_cases e : A k c w = true
          · rw [if_pos e]; exact rwL_inc d (k + 1) _
          · rw [if_neg e]; exact trivial
        · by_cases e : A k c w = true
          · rw [if_pos e] at ha
            obtain ⟨i, h1, h2, h3⟩ := mem_rwP.mp hb
            have a1 := (rwL_pre ha).1
            have b1 := (rwL_pre h3).1
            refine ⟨k, fun i hi => by rw [a1 i (by omega), b1 i (by omega), cup_ne (by omega), cup_ne (by omega)], ?_⟩
            rw [a1 k (by omega), b1 k (by omega), cup_eq, cup_eq]
            omega
          · rw [if_neg e] at ha; exact absurd ha List.not_mem_nil
    exact key nW 0
section SAY
variable {nW : Nat} {op : Nat → Bool} {mg : Nat → Int32} {sy : Nat → Int32}
theorem so_al : ∀ {d k : Nat} {c e : Nat → Nat}, e ∈ rwL nW (soW op mg sy) d k c → e ∈ rwL nW (alW op mg sy) d k c
  | 0, k, c, e, h => h
  | d + 1, k, c, e, h => by
    obtain ⟨w, h1, h2, h3⟩ := mem_rwL.mp h
    exact mem_rwL.mpr ⟨w, h1, alW_iff.mpr (soW_iff.mp h2).1, so_al h3⟩
theorem al_so : ∀ {d k : Nat} {c e : Nat → Nat}, e ∈ rwL nW (alW op mg sy) d k c → isO sy (k + d) e → e ∈ rwL nW (soW op mg sy) d k c
  | 0, k, c, e, h, _ => h
  | d + 1, k, c, e, h, ho => by
    obtain ⟨w, h1, h2, h3⟩ := mem_rwL.mp h
    have hp := (rwL_pre h3).1
    refine mem_rwL.mpr ⟨w, h1, soW_iff.mpr ⟨alW_iff.mp h2, fun j hj hjk => ?_⟩, al_so h3 (by rw [show k + 1 + d = k + (d + 1) by omega]; exact ho)⟩
    have e1 := hp j (by omega)
    have e2 := hp k (by omega)
    rw [cup_ne (by omega)] at e1
    rw [cup_eq] at e2
    have := ho j k hj (by omega) hjk
    omega
theorem al_mem : ∀ {d k : Nat} {c e : Nat → Nat}, (∀ i, i < k → e i = c i) → (∀ i, k + d ≤ i → e i = c i) → isR nW op mg sy (k + d) e → e ∈ rwL nW (alW op mg sy) d k c
  | 0, k, c, e, h1, h2, _ => by
    rw [rwL]
    refine List.mem_singleton.mpr (funext fun i => ?_)
    by_cases z : i < k
    · exact h1 i z
    · exact h2 i (by omega)
  | d + 1, k, c, e, h1, h2, h3 => by
    obtain ⟨a1, a2, a3⟩ := h3 k (by omega)
    refine mem_rwL.mpr ⟨e k, a1, alW_iff.mpr ⟨a2, a3⟩, al_mem (fun i hi => ?_) (fun i hi => ?_) (by rw [show k + 1 + d = k + (d + 1) by omega]; exact h3)⟩
    · by_cases z : i = k
      · subst z; rw [cup_eq]
      · rw [cup_ne z]; exact h1 i (by omega)
    · rw [cup_ne (by omega)]; exact h2 i (by omega)
theorem al_R : ∀ {d k : Nat} {c e : Nat → Nat}, isR nW op mg sy k c → e ∈ rwL nW (alW op mg sy) d k c → isR nW op mg sy (k + d) e
  | 0, k, c, e, hc, h => by
    rw [rwL] at h
    rw [List.mem_singleton.mp h]
    exact hc
  | d + 1, k, c, e, hc, h => by
    obtain ⟨w, h1, h2, h3⟩ := mem_rwL.mp h
    rw [show k + (d + 1) = k + 1 + d by omega]
    exact al_R (hc.cup ⟨h1, alW_iff.mp h2⟩) h3
theorem lsum_z : ∀ M : List (Nat → Nat), lsum M (fun _ => 0) = 0
  | [] => rfl
  | a :: M => by rw [lsum, lsum_z M]
/-- the best so far: how long, how many, the first -/
abbrev StS := Nat × Nat × (Nat → Nat)
def wgh (fit : (Nat → Nat) → Bool) (V wt : (Nat → Nat) → Nat) (st : StS) (c : Nat → Nat) : StS := if fit c = true ∧ V c ≤ st.1 then (if V c < st.1 then (V c, wt c, c) else (st.1, st.2.1 + wt c, st.2.2)) else st
def fld (fit : (Nat → Nat) → Bool) (V wt : (Nat → Nat) → Nat) : StS → List (Nat → Nat) → StS
  | st, [] => st
  | st, c :: L => fld fit V wt (wgh fit V wt st c) L
theorem fld_app (fit : (Nat → Nat) → Bool) (V wt : (Nat → Nat) → Nat) : ∀ (L M : List (Nat → Nat)) (st : StS), fld fit V wt st (L ++ M) = fld fit V wt (fld fit V wt st L) M
  | [], M, st => rfl
  | c :: L, M, st => by rw [List.cons_append, fld, fld, fld_app fit V wt L M]
/-- rows that cannot be better are passed over -/
theorem fld_no {fit : (Nat → Nat) → Bool} {V wt : (Nat → Nat) → Nat} : ∀ {L : List (Nat → Nat)} {st : StS}, (∀ c, c ∈ L → ¬ (fit c = true ∧ V c ≤ st.1)) → fld fit V wt st L = st
  | [], st, _ => rfl
  | c :: L, st, h => by
    have e : wgh fit V wt st c = st := if_neg (h c List.mem_cons_self)
    rw [fld, e]
    exact fld_no fun d hd => h d (List.mem_cons_of_mem _ hd)
def fdI (B : Nat) (fit : (Nat → Nat) → Bool) (V wt : (Nat → Nat) → Nat) (L : List (Nat → Nat)) (st : StS) : Prop :=
  (∀ c, c ∈ L → fit c = true → st.1 ≤ V c) ∧ st.2.1 = lsum L (fun c => if fit c = true ∧ V c = st.1 then wt c else 0) ∧ ((st.1 = B ∧ ∀ c, c ∈ L → ¬ fit c = true) ∨ (st.1 < B ∧ st.2.2 ∈ L ∧ fit st.2.2 = true ∧ V st.2.2 = st.1 ∧ ∀ c, c ∈ L → fit c = true → V c = st.1 → st.2.2 = c ∨ rlt st.2.2 c))
theorem fdI_run {B : Nat} {fit : (Nat → Nat) → Bool} {V wt : (Nat → Nat) → Nat} : ∀ (L pre : List (Nat → Nat)) (st : StS), (∀ c, c ∈ L → V c < B) → (∀ a b, a ∈ pre → b ∈ L → rlt a b) → incL L → fdI B fit V wt pre st → fdI B fit V wt (pre ++ L) (fld fit V wt st L)
  | [], pre, st, _, _, _, h => by rw [List.append_nil]; exact h
  | c :: L, pre, st, hB, hp, hi, h => by
    rw [fld, show pre ++ c :: L = (pre ++ [c]) ++ L by rw [List.append_assoc]; rfl]
    refine fdI_run L (pre ++ [c]) _ (fun d hd => hB d (List.mem_cons_of_mem _ hd)) ?_ hi.2 ?_
    · intro a b ha hb
      rcases List.mem_append.mp ha with z | z
      · exact hp a b z (List.mem_cons_of_mem _ hb)
      · rw [List.mem_singleton.mp z]; exact hi.1 b hb
    obtain ⟨h1, h2, h3⟩ := h
    have hcB := hB c List.mem_cons_self
    have hlt : ∀ a, a ∈ pre → rlt a c := fun a ha => hp a c ha List.mem_cons_self
    have hm : ∀ {x}, x ∈ pre ++ [c] → x ∈ pre ∨ x = c := fun {x} hx => (List.mem_append.mp hx).imp id List.mem_singleton.mp
    have hmc : c ∈ pre ++ [c] := List.mem_append.mpr (Or.inr (List.mem_singleton.mpr rfl))
    have hle : st.1 ≤ B := by rcases h3 with z | z <;> omega
    by_cases e1 : fit c = true ∧ V c ≤ st.1
    · by_cases e2 : V c < st.1
      · have ew : wgh fit V wt st c = (V c, wt c, c) := by unfold wgh; rw [if_pos e1, if_pos e2]
        rw [ew]
        refine ⟨fun x hx hf => ?_, ?_, Or.inr ⟨hcB, hmc, e1.1, rfl, fun x hx hf hv => ?_⟩⟩
        · rcases hm hx with z | z
          · have := h1 x z hf; show V c ≤ V x; omega
          · rw [z]; exact Nat.le_refl _
        · show wt c = lsum (pre ++ [c]) (fun x => if fit x = true ∧ V x = V c then wt x else 0)
          rw [lsum_app, lsum_cg (L := pre) (G := fun _ => 0) (fun x hx => if_neg fun z => by have := h1 x hx z.1; omega)]
          rw [lsum_z, lsum, if_pos ⟨e1.1, rfl⟩, lsum]
          omega
        · rcases hm hx with z | z
          · have := h1 x z hf
            have hv : V x = V c := hv
            omega
          · exact Or.inl z.symm
      · have ew : wgh fit V wt st c = (st.1, st.2.1 + wt c, st.2.2) := by unfold wgh; rw [if_pos e1, if_neg e2]
        have ev : V c = st.1 := by omega
        rw [ew]
        refine ⟨fun x hx hf => ?_, ?_, ?_⟩
        · rcases hm hx with z | z
          · exact h1 x z hf
          · rw [z]; show st.1 ≤ V c; omega
        · show st.2.1 + wt c = lsum (pre ++ [c]) (fun x => if fit x = true ∧ V x = st.1 then wt x else 0)
          rw [lsum_app, ← h2, lsum, if_pos ⟨e1.1, ev⟩, lsum]
          rfl
        · rcases h3 with z | ⟨z1, z2, z3, z4, z5⟩
          · omega
          · refine Or.inr ⟨z1, List.mem_append.mpr (Or.inl z2), z3, z4, fun x hx hf hv => ?_⟩
            rcases hm hx with z | z
            · exact z5 x z hf hv
            · rw [z]; exact Or.inr (hlt _ z2)
    · have ew : wgh fit V wt st c = st := if_neg e1
      rw [ew]
      have hn : ¬ (fit c = true ∧ V c = st.1) := fun z => e1 ⟨z.1, by omega⟩
      refine ⟨fun x hx hf => ?_, ?_, ?_⟩
      · rcases hm hx with z | z
        · exact h1 x z hf
        · rw [z] at hf ⊢
          have : ¬ V c ≤ st.1 := fun w => e1 ⟨hf, w⟩
          omega
      · rw [lsum_app, ← h2, lsum, if_neg hn, lsum]
        rfl
      · rcases h3 with ⟨z1, z2⟩ | ⟨z1, z2, z3, z4, z5⟩
        · refine Or.inl ⟨z1, fun x hx hf => ?_⟩
          rcases hm hx with z | z
          · exact z2 x z hf
          · rw [z] at hf; exact e1 ⟨hf, by omega⟩
        · refine Or.inr ⟨z1, List.mem_append.mpr (Or.inl z2), z3, z4, fun x hx hf hv => ?_⟩
          rcases hm hx with z | z
          · exact z5 x z hf hv
          · rw [z] at hf hv; exact absurd ⟨hf, hv⟩ hn
theorem fdI_all {B : Nat} {fit : (Nat → Nat) → Bool} {V wt : (Nat → Nat) → Nat} {L : List (Nat → Nat)} (hB : ∀ c, c ∈ L → V c < B) (hi : incL L) (f : Nat → Nat) : fdI B fit V wt L (fld fit V wt (B, 0, f) L) :=
  fdI_run L [] (B, 0, f) hB (fun a b ha => absurd ha List.not_mem_nil) hi ⟨fun c hc => absurd hc List.not_mem_nil, rfl, Or.inl ⟨rfl, fun c hc => absurd hc List.not_mem_nil⟩⟩
/-- two places with one meaning change their words -/
theorem swpRw {n i j : Nat} {c : Nat → Nat} (h : isR nW op mg sy n c) (hij : i < j) (hj : j < n) (hs : sy i = sy j) : isR nW op mg sy n (cup (cup c i (c j)) j (c i)) ∧ eqv nW (cnt n (cup (cup c i (c j)) j (c i))) (cnt n c) := by
  obtain ⟨a1, a2, a3⟩ := h i (by omega)
  obtain ⟨b1, b2, b3⟩ := h j hj
  refine ⟨fun l hl => ?_, fun x _ => ?_⟩
  · by_cases e : l = j
    · subst e; rw [cup_eq]; exact ⟨a1, a2, a3.trans hs⟩
    · rw [cup_ne e]
      by_cases e2 : l = i
      · subst e2; rw [cup_eq]; exact ⟨b1, b2, b3.trans hs.symm⟩
      · rw [cup_ne e2]; exact h l hl
  · have z1 := cnt_chg (c := c) (y := c j) (show i < n by omega) x
    have z2 := cnt_chg (c := cup c i (c j)) (y := c i) hj x
    rw [cup_ne (show j ≠ i by omega)] at z2
    omega
/-- all rows, and those in order with their ways: the same -/
theorem sayEq {n B B' : Nat} {fit : (Nat → Nat) → Bool} {V : (Nat → Nat) → Nat} (hf : ∀ c d, isR nW op mg sy n c → isR nW op mg sy n d → eqv nW (cnt n c) (cnt n d) → fit c = fit d ∧ V c = V d) (hB : ∀ c, isR nW op mg sy n c → V c < B ∧ V c < B') (f f' : Nat → Nat) {m r m' r' : Nat} {g g' : Nat → Nat} (h1 : fld fit V (fun _ => 1) (B, 0, f) (rwL nW (alW op mg sy) n 0 (fun _ => 0)) = (m, r, g)) (h2 : fld fit V (fun c => num nW op mg sy n (cnt n c)) (B', 0, f') (rwL nW (soW op mg sy) n 0 (fun _ => 0)) = (m', r', g')) : r = r' ∧ (r = 0 ∨ (m = m' ∧ g = g' ∧ m < B ∧ m < B')) := by
  have z0 : isR nW op mg sy 0 (fun _ => 0) := fun j hj => absurd hj (by omega)
  have R1 : ∀ c, c ∈ rwL nW (alW op mg sy) n 0 (fun _ => 0) → isR nW op mg sy n c := fun c hc => by
    have := al_R z0 hc
    rw [Nat.zero_add] at this
    exact this
  have i1 := fdI_all (fit := fit) (V := V) (wt := fun _ => 1) (fun c hc => (hB c (R1 c hc)).1) (rwL_inc n 0 (fun _ => 0)) f
  have i2 := fdI_all (fit := fit) (V := V) (wt := fun c => num nW op mg sy n (cnt n c)) (fun c hc => (hB c (R1 c (so_al hc))).2) (rwL_inc (A := soW op mg sy) n 0 (fun _ => 0)) f'
  rw [h1] at i1
  rw [h2] at i2
  obtain ⟨a1, a2, a3⟩ := i1
  obtain ⟨b1, b2, b3⟩ := i2
  dsimp only at a1 a2 a3 b1 b2 b3
  -- the first of all is in order
  have hO : m < B → g ∈ rwL nW (alW op mg sy) n 0 (fun _ => 0) → fit g = true → V g = m → (∀ c, c ∈ rwL nW (alW op mg sy) n 0 (fun _ => 0) → fit c = true → V c = m → g = c ∨ rlt g c) → g ∈ rwL nW (soW op mg sy) n 0 (fun _ => 0) := by
    intro y1 y2 y3 y4 y5
    refine al_so y2 ?_
    rw [Nat.zero_add]
    intro i j hij hj hs
    apply Nat.le_of_not_lt
    intro hlt
    have hg := R1 g y2
    obtain ⟨s1, s2⟩ := swpRw hg hij hj hs
    have hmem : cup (cup g i (g j)) j (g i) ∈ rwL nW (alW op mg sy) n 0 (fun _ => 0) := by
      refine al_mem (fun l hl => absurd hl (by omega)) (fun l hl => ?_) (by rw [Nat.zero_add]; exact s1)
      rw [cup_ne (by omega), cup_ne (by omega)]
      exact (rwL_pre y2).2 l (by omega)
    obtain ⟨q1, q2⟩ := hf _ _ s1 hg s2
    rcases y5 _ hmem (q1.trans y3) (q2.trans y4) with e | ⟨l, e1, e2⟩
    · have := congrFun e i
      rw [cup_ne (by omega), cup_eq] at this
      omega
    · by_cases l1 : l < i
      · rw [cup_ne (by omega), cup_ne (by omega)] at e2
        omega
      · by_cases l2 : l = i
        · subst l2
          rw [cup_ne (by omega), cup_eq] at e2
          omega
        · have := e1 i (by omega)
          rw [cup_ne (by omega), cup_eq] at this
          omega
  rcases a3 with ⟨z1, z2⟩ | ⟨z1, z2, z3, z4, z5⟩
  · have r0 : r = 0 := by
      rw [a2, lsum_cg (G := fun _ => 0) (fun c hc => if_neg fun z => z2 c hc z.1)]
      exact lsum_z _
    have r1 : r' = 0 := by
      rw [b2, lsum_cg (G := fun _ => 0) (fun c hc => if_neg fun z => z2 c (so_al hc) z.1)]
      exact lsum_z _
    exact ⟨by omega, Or.inl r0⟩
  have gm := hO z1 z2 z3 z4 z5
  rcases b3 with ⟨y1, y2⟩ | ⟨y1, y2, y3, y4, y5⟩
  · exact absurd z3 (y2 g gm)
  have em : m = m' := by
    apply Nat.le_antisymm
    · rw [← y4]; exact a1 _ (so_al y2) y3
    · rw [← z4]; exact b1 _ gm z3
  subst em
  have er : r = r' := by
    rw [a2, b2, lsum_rs, lsum_rs, cntEq (F := fun c => if fit c = true ∧ V c = m then 1 else 0)]
    · refine rs_cg n fun c _ => ?_
      by_cases e : fit c = true ∧ V c = m
      · rw [if_pos e, if_pos e, Nat.mul_one]
      · rw [if_neg e, if_neg e, Nat.mul_zero]
    · intro c d hc hd he
      obtain ⟨q1, q2⟩ := hf c d hc hd he
      rw [q1, q2]
  refine ⟨er, Or.inr ⟨rfl, ?_, z1, y1⟩⟩
  rcases z5 _ (so_al y2) y3 y4 with e | e
  · exact e
  · rcases y5 _ gm z3 z4 with e' | e'
    · exact e'.symm
    · exact (rlt_as e e').elim
end SAY

theorem am_cv_ext {σ n : Nat} {α α' : Nat → Nat} (h : ∀ i, i < n → α' i = α i) {v : Value} (hv : am_vo n v) : am_cv σ α' v = am_cv σ α v := by
  cases v with
  | ref b => show Value.ref (α' b) = .ref (α b); rw [h b hv]
  | _ => rfl
theorem am_so_ext {σ n : Nat} {α α' : Nat → Nat} (h : ∀ i, i < n → α' i = α i) : ∀ {st : List Value}, am_so n st → st.map (am_cv σ α') = st.map (am_cv σ α)
  | [], _ => rfl
  | v :: st, hs => by
    rw [List.map_cons, List.map_cons, am_cv_ext h hs.1, am_so_ext h hs.2]
theorem am_ls_ext {σ n : Nat} {α α' : Nat → Nat} (h : ∀ i, i < n → α' i = α i) {ls : List (Nat × Value)} (hs : ∀ q ∈ ls, am_vo n q.2) : (ls.map fun q => (q.1, am_cv σ α' q.2)) = ls.map fun q => (q.1, am_cv σ α q.2) :=
  List.map_congr_left fun q hq => by rw [am_cv_ext h (hs q hq)]
theorem am_vo_le {n n' : Nat} (h : n ≤ n') {v : Value} (hv : am_vo n v) : am_vo n' v := by
  cases v with
  | ref b => exact Nat.lt_of_lt_of_le hv h
  | _ => trivial
theorem am_so_le {n n' : Nat} (h : n ≤ n') : ∀ {st : List Value}, am_so n st → am_so n' st
  | [], _ => trivial
  | _ :: _, hs => ⟨am_vo_le h hs.1, am_so_le h hs.2⟩
theorem am_E_new {Z : am_Z} {dA : Nat → ClassId} {σ : Nat} {α : Nat → Nat} {g : am_G} {kd len q i : Nat} (hok : am_ok Z g) (hi : i < am_n g) : am_E dA σ (am_up α (am_n g) q) (am_new g kd len) i = am_E dA σ α g i := by
  have hne : i ≠ am_n g := by omega
  have h1 : am_I (am_new g kd len) i = am_I g i := am_up_ne hne
  have h2 : am_L (am_new g kd len) i = am_L g i := am_up_ne hne
  have h3 : am_P (am_new g kd len) i = am_P g i := am_up_ne hne
  have h4 : am_S (am_new g kd len) i = am_S g i := am_up_ne hne
  have hα : ∀ j, j < am_n g → am_up α (am_n g) q j = α j := fun j hj => am_up_ne (by omega)
  have h5 : ∀ ty k, am_cv σ (am_up α (am_n g) q) (am_av (am_new g kd len) i ty k) = am_cv σ α (am_av g i ty k) := by
    intro ty k
    have e : am_av (am_new g kd len) i ty k = am_av g i ty k := by
      unfold am_av
      rw [h1, h2, h3]
    rw [e, am_cv_ext hα (am_vo_av hok hi ty k)]
  have h6 : (fun k => (am_P (am_new g kd len) i k).map (am_up α (am_n g) q)) = fun k => (am_P g i k).map α := by
    funext k
    rw [h3]
    cases hp : am_P g i k with
    | none => rfl
    | some b => show some _ = some _; rw [hα b (hok.1 i hi k b hp)]
  unfold am_E
  rw [h4, h1, h2, h6]
  simp only [h5]
theorem am_wl_new {Z : am_Z} {dA : Nat → ClassId} {σ : Nat} {α : Nat → Nat} {g : am_G} {kd len q : Nat} (hok : am_ok Z g) {e : va_E} (he : am_E dA σ (am_up α (am_n g) q) (am_new g kd len) (am_n g) = e) : am_wl dA σ α g ++ [(q, e)] = am_wl dA σ (am_up α (am_n g) q) (am_new g kd len) := by
  unfold am_wl
  show _ = (List.range (am_n g + 1)).map _
  rw [List.range_succ, List.map_append]
  congr 1
  · refine List.map_congr_left fun i hi => ?_
    have hi : i < am_n g := List.mem_range.mp hi
    rw [am_E_new hok hi, am_up_ne (by omega)]
  · rw [List.map_singleton, am_up_eq, he]
theorem am_ok_new {Z : am_Z} {g : am_G} {kd len : Nat} (hok : am_ok Z g) (hz : ∀ k, Z.2 (am_n g) k = none) : am_ok Z (am_new g kd len) := by
  refine ⟨fun i hi k b hb => ?_, fun a q hq => ?_, fun a k b hb => ?_⟩
  · have hi : i < am_n g + 1 := hi
    show b < am_n g + 1
    by_cases h : i = am_n g
    · subst h
      have : am_P (am_new g kd len) (am_n g) k = none := by show am_up (am_P g) (am_n g) _ (am_n g) k = none; rw [am_up_eq]
      rw [this] at hb
      cases hb
    · have : am_P (am_new g kd len) i k = am_P g i k := by show am_up (am_P g) (am_n g) _ i k = _; rw [am_up_ne h]
      rw [this] at hb
      have := hok.1 i (by omega) k b hb
      omega
  · have h1 := hok.2.1 a q hq
    refine ⟨Nat.lt_succ_of_lt h1.1, ?_⟩
    show am_up (am_S g) (am_n g) _ a = q
    rw [am_up_ne (by omega)]
    exact h1.2
  · show am_up (am_P g) (am_n g) _ a k = some b
    by_cases h : a = am_n g
    · subst h
      rw [hz] at hb
      cases hb
    · rw [am_up_ne h]
      exact hok.2.2 a k b hb
theorem am_V.new {Z : am_Z} {M : am_M} {σ : Nat} {D : va_G} {dA : Nat → ClassId} {A : Nat → Prop} {α0 : Nat → Nat} {n0 s0 : Nat} {s : State} {ls : List (Nat × Value)} {g : am_G} {α : Nat → Nat} {H H1 : Heap} {locs : List Loc} {la : Array Slot} {kd len q : Nat} (V : am_V Z M σ D dA A α0 n0 s0 s ls g α H locs la) (hz : am_ok Z g → ∀ k, Z.2 (am_n g) k = none) (hP : va_P D am_cl (am_wl dA σ (am_up α (am_n g) q) (am_new g kd len)) H1) (hD : va_D A (am_wl dA σ (am_up α (am_n g) q) (am_new g kd len))) (hS : va_S A s.heap H1 locs) : am_V Z M σ D dA A α0 n0 s0 s ls (am_new g kd len) (am_up α (am_n g) q) H1 locs la := by
  obtain ⟨h1, h2, h3, h4, h5, -, -, -, h9⟩ := V
  have hα : ∀ j, j < am_n g → am_up α (am_n g) q j = α j := fun j hj => am_up_ne (by omega)
  refine ⟨fun i hi => (hα i (by omega)).trans (h1 i hi), Nat.le_succ_of_le h2, Nat.le_trans h3 (Nat.le_add_right _ _), am_ok_new h4 (hz h4), fun x hx => am_vo_le (Nat.le_succ _) (h5 x hx), hP, hD, hS, ?_⟩
  rw [am_ls_ext hα h5]
  exact h9
def am_fd : FieldType → Bool
  | .float => false
  | .double => false
  | _ => true
theorem am_fdok : ∀ ci, ci < 13 → ∀ k, k < am_N ci → am_fd (am_ty ci k) = true := by decide +kernel
theorem am_av_new {σ : Nat} {α : Nat → Nat} {g : am_G} {kd len : Nat} {ty : FieldType} (h : am_fd ty = true) (k : Nat) : am_cv σ α (am_av (am_new g kd len) (am_n g) ty k) = defaultValue ty := by
  have h1 : am_I (am_new g kd len) (am_n g) k = 0 := by show am_up (am_I g) (am_n g) _ (am_n g) k = 0; rw [am_up_eq]
  have h2 : am_L (am_new g kd len) (am_n g) k = 0 := by show am_up (am_L g) (am_n g) _ (am_n g) k = 0; rw [am_up_eq]
  have h3 : am_P (am_new g kd len) (am_n g) k = none := by show am_up (am_P g) (am_n g) _ (am_n g) k = none; rw [am_up_eq]
  unfold am_av
  rw [h1, h2, h3]
  cases ty <;> first | rfl | simp [am_fd] at h
section AMN
variable {Z : am_Z} {M : am_M} {d pc : Nat} {ls : List (Nat × Value)} {rest : List Value} {g : am_G} {r : Option Value × am_G} {idx : Nat}
theorem ev_new (ci : Nat) (hd : decode M.2.1 pc = .ok (.new idx, 3)) (hz : am_ok Z g → ∀ k, Z.2 (am_n g) k = none) (hci : ci < 13) (hl : Cond.classLink M.1.cls idx (am_R ci) ∈ am_W) (kk : am_Ev Z M d (pc + 3) ls (.ref (am_n g) :: rest) (am_new g ci (am_N ci)) r) : am_Ev Z M d pc ls rest g r := by
  have k1 : am_n g + 1 ≤ am_n r.2 := kk.1.1
  have k2 : am_s g + am_N ci ≤ am_s r.2 := kk.1.2
  refine ⟨⟨by omega, by omega⟩, ?_⟩
  intro p l e R s m args below meth c σ τ D dA A α0 n0 s0 C α H locs la V hst
  have v1 : n0 ≤ am_n g := V.2.1
  have v2 : s0 ≤ am_s g := V.2.2.1
  refine va_new (C := am_R ci) (T := am_T ci) (N := am_N ci) (ci := ci) (index := idx) (Ts := am_W) (fs := (List.range (am_N ci)).map fun k => defaultValue (am_ty ci k)) C.1 C.2.1 C.2.2.2.2.2.1 (am_win ci hci) (am_ty ci) (am_tyok ci hci) C.2.2.2.2.1 (C.2.2.2.2.2.1 _ hl) (C.2.2.2.2.2.1 _ (List.mem_filter.mpr (am_inst ci hci))) (C.2.2.2.2.2.1 _ (List.mem_filter.mpr (am_init ci hci))) C.2.2.2.2.2.2.2.2.2.2.2.2.2.1.1 V.2.2.2.2.2.1 V.2.2.2.2.2.2.1 V.2.2.2.2.2.2.2.1 C.2.2.2.2.2.2.2.2.1 (am_cl_at hci) (fun j hj => by simp [vp_V, hj]) (by rw [C.2.2.2.2.2.2.2.2.2.2.2.1]; omega) (by rw [C.2.2.2.2.2.2.2.2.2.2.2.2.1]; omega) hd (fun q H1 hP1 hD1 hS1 => ?_)
  have hw := am_wl_new (dA := dA) (σ := σ) (α := α) (g := g) (kd := ci) (len := am_N ci) (q := q) V.2.2.2.1 (e := .inr (ci, (List.range (am_N ci)).map fun k => defaultValue (am_ty ci k))) (by
    rw [am_E_obj (len := am_N ci) (by show am_up (am_S g) (am_n g) _ (am_n g) = _; rw [am_up_eq]) hci]
    congr 2
    exact List.map_congr_left fun k hk => am_av_new (am_fdok ci hci k (List.mem_range.mp hk)) k)
  rw [hw] at hP1 hD1
  have hk := kk.2 p l e R s m args below meth c σ τ D dA A α0 n0 s0 C (am_up α (am_n g) q) H1 locs la (V.new hz hP1 hD1 hS1) ⟨Nat.lt_succ_self _, am_so_le (Nat.le_succ _) hst⟩
  rw [List.map_cons, am_so_ext (fun j hj => am_up_ne (by omega)) hst] at hk
  have e1 : am_cv σ (am_up α (am_n g) q) (.ref (am_n g)) = .ref q := by show Value.ref (am_up α (am_n g) q (am_n g)) = _; rw [am_up_eq]
  rw [e1] at hk
  refine W.cs (cells' := am_n (am_new g ci (am_N ci)) - n0) (slots' := am_s (am_new g ci (am_N ci)) - s0) ?_ ?_ hk
  · show am_n g - n0 + 1 = am_n g + 1 - n0
    omega
  · show am_s g - s0 + am_N ci = am_s g + am_N ci - s0
    omega
/-- the kinds of arrays of numbers -/
def am_at (kd : Nat) : ArrayType := if kd = 20 then .int else if kd = 21 then .byte else if kd = 22 then .boolean else .long
def am_aty (kd : Nat) : FieldType := if kd = 20 then .int else if kd = 21 then .byte else if kd = 22 then .boolean else .long
theorem ev_newa (kd N : Nat) {n : Int32} (hd : decode M.2.1 pc = .ok (.newarray (am_at kd), 2)) (hz : am_ok Z g → ∀ k, Z.2 (am_n g) k = none) (h1 : 20 ≤ kd) (h2 : kd < 24) (hl : Cond.arrayClass (am_aty kd) ∈ am_W) (hn : ¬ n < 0) (hN : n.toNatClampNeg = N) (hb : N ≤ 1000000) (kk : am_Ev Z M d (pc + 2) ls (.ref (am_n g) :: rest) (am_new g kd N) r) : am_Ev Z M d pc ls (.int n :: rest) g r := by
  have k1 : am_n g + 1 ≤ am_n r.2 := kk.1.1
  have k2 : am_s g + N ≤ am_s r.2 := kk.1.2
  refine ⟨⟨by omega, by omega⟩, ?_⟩
  intro p l e R s m args below meth c σ τ D dA A α0 n0 s0 C α H locs la V hst
  have v1 : n0 ≤ am_n g := V.2.1
  have v2 : s0 ≤ am_s g := V.2.2.1
  have hty : newarray.typeOf (am_at kd) = am_aty kd := by rcases (show kd = 20 ∨ kd = 21 ∨ kd = 22 ∨ kd = 23 by omega) with rfl | rfl | rfl | rfl <;> rfl
  have hcb : componentBytes (am_aty kd) ≤ 8 := by rcases (show kd = 20 ∨ kd = 21 ∨ kd = 22 ∨ kd = 23 by omega) with rfl | rfl | rfl | rfl <;> decide
  have hK := C.2.2.2.2.2.2.2.2.2.2.2.2.2.1.1
  have hT : (am_tys dA)[kd - 20]? = some (dA kd, am_aty kd) := by rcases (show kd = 20 ∨ kd = 21 ∨ kd = 22 ∨ kd = 23 by omega) with rfl | rfl | rfl | rfl <;> rfl
  have hre : am_aty kd = .int ∨ am_aty kd = .byte ∨ am_aty kd = .boolean ∨ am_aty kd = .long := by rcases (show kd = 20 ∨ kd = 21 ∨ kd = 22 ∨ kd = 23 by omega) with rfl | rfl | rfl | rfl <;> simp [am_aty]
  refine va_newa (ty := am_aty kd) (N' := N) (a0 := if kd = 23 then (N, .inr (.inl fun _ => 0)) else (N, .inl fun _ => 0)) C.1 C.2.1 (C.2.2.2.2.2.1 _ (by rw [hty]; exact hl)) hty hK V.2.2.2.2.2.1 V.2.2.2.2.2.2.1 V.2.2.2.2.2.2.2.1 C.2.2.2.2.2.2.2.2.1 (fun cA => by rcases (show kd = 20 ∨ kd = 21 ∨ kd = 22 ∨ kd = 23 by omega) with rfl | rfl | rfl | rfl <;> rfl) hn hN (Nat.le_trans (Nat.mul_le_mul hb hcb) (by decide)) (by rw [C.2.2.2.2.2.2.2.2.2.2.2.1]; omega) (by rw [C.2.2.2.2.2.2.2.2.2.2.2.2.1]; omega) hd (fun q cA H1 hK1 hP1 hD1 hS1 => ?_)
  have hcA : cA = dA kd := by
    have g1 := (hK1.2 (am_tys dA).length (cA, am_aty kd) (by simp)).2
    have g2 := (hK.2 (kd - 20) (dA kd, am_aty kd) hT).2
    have g1 : va_RA s cA (am_aty kd) := g1
    have g2 : va_RA s (dA kd) (am_aty kd) := g2
    rcases hre with hh | hh | hh | hh <;> rw [hh] at g1 g2 <;> exact Option.some.inj (Eq.trans (Eq.symm g1) g2)
  subst hcA
  have hw := am_wl_new (dA := dA) (σ := σ) (α := α) (g := g) (kd := kd) (len := N) (q := q) V.2.2.2.1 (e := .inl (dA kd, if kd = 23 then (N, .inr (.inl fun _ => 0)) else (N, .inl fun _ => 0))) (by
    have hSn : am_S (am_new g kd N) (am_n g) = (kd, N) := by show am_up (am_S g) (am_n g) _ (am_n g) = _; rw [am_up_eq]
    by_cases h23 : kd = 23
    · subst h23
      rw [am_E_long hSn, if_pos rfl]
      show Sum.inl (dA 23, N, Sum.inr (Sum.inl (am_up (am_L g) (am_n g) _ (am_n g)))) = _
      rw [am_up_eq]
    · rw [am_E_int hSn h1 (by omega), if_neg h23]
      show Sum.inl (dA kd, N, Sum.inl (am_up (am_I g) (am_n g) _ (am_n g))) = _
      rw [am_up_eq])
  rw [hw] at hP1 hD1
  have hk := kk.2 p l e R s m args below meth c σ τ D dA A α0 n0 s0 C (am_up α (am_n g) q) H1 locs la (V.new hz hP1 hD1 hS1) ⟨Nat.lt_succ_self _, am_so_le (Nat.le_succ _) hst.2⟩
  rw [List.map_cons, am_so_ext (fun j hj => am_up_ne (by omega)) hst.2] at hk
  have e1 : am_cv σ (am_up α (am_n g) q) (.ref (am_n g)) = .ref q := by show Value.ref (am_up α (am_n g) q (am_n g)) = _; rw [am_up_eq]
  rw [e1] at hk
  refine W.cs (cells' := am_n (am_new g kd N) - n0) (slots' := am_s (am_new g kd N) - s0) ?_ ?_ hk
  · show am_n g - n0 + 1 = am_n g + 1 - n0
    omega
  · show am_s g - s0 + N = am_s g + N - s0
    omega
theorem ev_newq (kd N : Nat) {n : Int32} (hd : decode M.2.1 pc = .ok (.anewarray idx, 3)) (hz : am_ok Z g → ∀ k, Z.2 (am_n g) k = none) (h1 : 24 ≤ kd) (h2 : kd < 27) (hl : Cond.classLink M.1.cls idx (am_R (am_rk kd)) ∈ am_W) (hn : ¬ n < 0) (hN : n.toNatClampNeg = N) (hb : N ≤ 1000000) (kk : am_Ev Z M d (pc + 3) ls (.ref (am_n g) :: rest) (am_new g kd N) r) : am_Ev Z M d pc ls (.int n :: rest) g r := by
  have k1 : am_n g + 1 ≤ am_n r.2 := kk.1.1
  have k2 : am_s g + N ≤ am_s r.2 := kk.1.2
  refine ⟨⟨by omega, by omega⟩, ?_⟩
  intro p l e R s m args below meth c σ τ D dA A α0 n0 s0 C α H locs la V hst
  have v1 : n0 ≤ am_n g := V.2.1
  have v2 : s0 ≤ am_s g := V.2.2.1
  have hXx := C.2.2.2.2.2.2.2.2.2.2.2.2.2.1
  have hK := hXx.1
  have hAO : va_AO (am_R (am_rk kd)) s := by
    rcases (show kd = 24 ∨ kd = 25 ∨ kd = 26 by omega) with rfl | rfl | rfl
    · exact hXx.2.2.1
    · exact hXx.2.2.2.1
    · exact hXx.2.2.2.2.1
  refine va_newq (C := am_R (am_rk kd)) (N' := N) C.1 C.2.1 C.2.2.2.2.1 (C.2.2.2.2.2.1 _ hl) hAO hK V.2.2.2.2.2.1 V.2.2.2.2.2.2.1 V.2.2.2.2.2.2.2.1 C.2.2.2.2.2.2.2.2.1 hn hN (by omega) (by rw [C.2.2.2.2.2.2.2.2.2.2.2.1]; omega) (by rw [C.2.2.2.2.2.2.2.2.2.2.2.2.1]; omega) hd (fun q cA H1 hK1 hP1 hD1 hS1 => ?_)
  have hcA : cA = dA kd := by
    obtain ⟨kA, comp, -, -, -, g1⟩ := (hK1.2 (am_tys dA).length (cA, .object (am_R (am_rk kd))) (by simp)).2
    obtain ⟨kA', comp', -, -, -, g2⟩ := (hK.2 (kd - 20) (dA kd, .object (am_R (am_rk kd))) (am_rk_ty dA h1 h2)).2
    exact Option.some.inj (Eq.trans (Eq.symm g1) g2)
  subst hcA
  have hw := am_wl_new (dA := dA) (σ := σ) (α := α) (g := g) (kd := kd) (len := N) (q := q) V.2.2.2.1 (e := .inl (dA kd, N, .inr (.inr (.inr (.inr fun _ => none))))) (by
    have hSn : am_S (am_new g kd N) (am_n g) = (kd, N) := by show am_up (am_S g) (am_n g) _ (am_n g) = _; rw [am_up_eq]
    rw [am_E_ref hSn (by omega)]
    congr 7
    funext k
    show (am_up (am_P g) (am_n g) _ (am_n g) k).map _ = _
    rw [am_up_eq]
    rfl)
  rw [hw] at hP1 hD1
  have hk := kk.2 p l e R s m args below meth c σ τ D dA A α0 n0 s0 C (am_up α (am_n g) q) H1 locs la (V.new hz hP1 hD1 hS1) ⟨Nat.lt_succ_self _, am_so_le (Nat.le_succ _) hst.2⟩
  rw [List.map_cons, am_so_ext (fun j hj => am_up_ne (by omega)) hst.2] at hk
  have e1 : am_cv σ (am_up α (am_n g) q) (.ref (am_n g)) = .ref q := by show Value.ref (am_up α (am_n g) q (am_n g)) = _; rw [am_up_eq]
  rw [e1] at hk
  refine W.cs (cells' := am_n (am_new g kd N) - n0) (slots' := am_s (am_new g kd N) - s0) ?_ ?_ hk
  · show am_n g - n0 + 1 = am_n g + 1 - n0
    omega
  · show am_s g - s0 + N = am_s g + N - s0
    omega
end AMN

theorem am_wl_at {dA : Nat → ClassId} {σ : Nat} {α : Nat → Nat} {g : am_G} {i : Nat} (h : i < am_n g) : (am_wl dA σ α g)[i]? = some (α i, am_E dA σ α g i) := by simp [am_wl, List.getElem?_map, List.getElem?_range h]
theorem am_wl_set {dA : Nat → ClassId} {σ : Nat} {α : Nat → Nat} {g g' : am_G} {i : Nat} (hn : am_n g' = am_n g) (ho : ∀ j, j ≠ i → am_E dA σ α g' j = am_E dA σ α g j) {e : va_E} (he : am_E dA σ α g' i = e) : (am_wl dA σ α g).set i (α i, e) = am_wl dA σ α g' := by
  subst he
  apply List.ext_getElem?
  intro j
  rw [List.getElem?_set]
  by_cases hj : i = j
  · subst hj
    rw [if_pos rfl]
    by_cases hl : i < am_n g
    · rw [if_pos (by simpa [am_wl] using hl), am_wl_at (by rw [hn]; exact hl)]
    · rw [if_neg (by simpa [am_wl] using hl)]
      simp [am_wl, hn, hl]
  · rw [if_neg hj]
    by_cases hl : j < am_n g
    · rw [am_wl_at hl, am_wl_at (by rw [hn]; exact hl), ho j (Ne.symm hj)]
    · simp [am_wl, hn, hl]
theorem am_E_obj {dA : Nat → ClassId} {σ : Nat} {α : Nat → Nat} {g : am_G} {i ci len : Nat} (h : am_S g i = (ci, len)) (hc : ci < 13) : am_E dA σ α g i = .inr (ci, (List.range (am_N ci)).map fun k => am_cv σ α (am_av g i (am_ty ci k) k)) := by
  have h1 : ci < 20 := by omega
  simp [am_E, h, h1]
theorem am_E_int {dA : Nat → ClassId} {σ : Nat} {α : Nat → Nat} {g : am_G} {i kd len : Nat} (h : am_S g i = (kd, len)) (h1 : 20 ≤ kd) (h2 : kd < 23) : am_E dA σ α g i = .inl (dA kd, len, .inl (am_I g i)) := by
  have h3 : ¬ kd < 20 := by omega
  have h4 : ¬ kd = 23 := by omega
  simp [am_E, h, h2, h3, h4]
theorem am_E_long {dA : Nat → ClassId} {σ : Nat} {α : Nat → Nat} {g : am_G} {i len : Nat} (h : am_S g i = (23, len)) : am_E dA σ α g i = .inl (dA 23, len, .inr (.inl (am_L g i))) := by
  simp [am_E, h]
theorem am_E_ref {dA : Nat → ClassId} {σ : Nat} {α : Nat → Nat} {g : am_G} {i kd len : Nat} (h : am_S g i = (kd, len)) (h1 : 23 < kd) : am_E dA σ α g i = .inl (dA kd, len, .inr (.inr (.inr (.inr fun k => (am_P g i k).map α)))) := by
  have h3 : ¬ kd < 20 := by omega
  have h4 : ¬ kd = 23 := by omega
  have h5 : ¬ kd < 23 := by omega
  simp [am_E, h, h3, h4, h5]
theorem am_fs_set (N k : Nat) (f f' : Nat → Value) (hk : ∀ j, j ≠ k → f' j = f j) {v : Value} (hv : f' k = v) : (List.range N).map f' = ((List.range N).map f).set k v := by
  subst hv
  apply List.ext_getElem?
  intro j
  rw [List.getElem?_set]
  by_cases hj : k = j
  · subst hj
    rw [if_pos rfl]
    by_cases hl : k < N
    · rw [if_pos (by simpa using hl)]; simp [List.getElem?_map, List.getElem?_range hl]
    · rw [if_neg (by simpa using hl)]; simp [hl]
  · rw [if_neg hj, List.getElem?_map, List.getElem?_map]
    by_cases hl : j < N
    · simp [List.getElem?_range hl, hk j (Ne.symm hj)]
    · simp [hl]
theorem am_fs_at {N k : Nat} (h : k < N) (f : Nat → Value) : ((List.range N).map f)[k]? = some (f k) := by simp [List.getElem?_map, List.getElem?_range h]
theorem am_up_ne {α : Type} {f : Nat → α} {k j : Nat} {x : α} (h : j ≠ k) : am_up f k x j = f j := if_neg h
theorem am_up_eq {α : Type} {f : Nat → α} {k : Nat} {x : α} : am_up f k x k = x := if_pos rfl
theorem am_E_sr {dA : Nat → ClassId} {σ : Nat} {α : Nat → Nat} {g : am_G} {a j : Nat} {f : Nat → Int32} (h : j ≠ a) : am_E dA σ α (am_sr g a f) j = am_E dA σ α g j := by
  have h1 : am_I (am_sr g a f) j = am_I g j := am_up_ne h
  have h2 : am_av (am_sr g a f) j = am_av g j := by
    funext ty k
    unfold am_av
    rw [show am_I (am_sr g a f) j k = am_I g j k from congrFun h1 k]
    rfl
  unfold am_E
  rw [h1, h2]
  rfl
theorem am_E_srL {dA : Nat → ClassId} {σ : Nat} {α : Nat → Nat} {g : am_G} {a j : Nat} {f : Nat → Int64} (h : j ≠ a) : am_E dA σ α (am_srL g a f) j = am_E dA σ α g j := by
  have h1 : am_L (am_srL g a f) j = am_L g j := am_up_ne h
  have h2 : am_av (am_srL g a f) j = am_av g j := by
    funext ty k
    unfold am_av
    rw [show am_L (am_srL g a f) j k = am_L g j k from congrFun h1 k]
    rfl
  unfold am_E
  rw [h1, h2]
  rfl
theorem am_E_srP {dA : Nat → ClassId} {σ : Nat} {α : Nat → Nat} {g : am_G} {a j : Nat} {f : Nat → Option Nat} (h : j ≠ a) : am_E dA σ α (am_srP g a f) j = am_E dA σ α g j := by
  have h1 : am_P (am_srP g a f) j = am_P g j := am_up_ne h
  have h2 : am_av (am_srP g a f) j = am_av g j := by
    funext ty k
    unfold am_av
    rw [show am_P (am_srP g a f) j k = am_P g j k from congrFun h1 k]
    rfl
  unfold am_E
  rw [h1, h2]
  rfl
theorem am_vo_av {Z : am_Z} {g : am_G} (hok : am_ok Z g) {a : Nat} (ha : a < am_n g) (ty : FieldType) (k : Nat) : am_vo (am_n g) (am_av g a ty k) := by
  have h : am_vo (am_n g) (va_rf (am_P g a k)) := by
    cases hp : am_P g a k with
    | none => trivial
    | some b => exact hok.1 a ha k b hp
  unfold am_av
  split <;> first | exact h | trivial
theorem am_cv_rf (σ : Nat) (α : Nat → Nat) (o : Option Nat) : am_cv σ α (va_rf o) = va_rf (o.map α) := by cases o <;> rfl
theorem am_same {ci k : Nat} (hci : ci < 13) (hk : k < am_N ci) (s : State) : ∀ x, s.fieldFound? (am_T ci k).1 (am_T ci k).2.1 (am_T ci k).2.2.1 = some x → s.fieldFound? (am_R ci) (am_T ci k).2.1 (am_T ci k).2.2.1 = some x := by
  rw [am_own ci hci k hk]
  exact fun _ h => h
section AMH
variable {Z : am_Z} {M : am_M} {d pc : Nat} {ls : List (Nat × Value)} {rest : List Value} {g : am_G} {r : Option Value × am_G} {a ci len idx : Nat}
theorem ev_gf {v : Value} (hd : decode M.2.1 pc = .ok (.getfield idx, 3)) (hS : am_ok Z g → am_S g a = (ci, len)) (k : Nat) (hci : ci < 13) (hk : k < am_N ci) (hl : Cond.fieldLink M.1.cls idx (am_R ci) (am_T ci k).2.1 (am_T ci k).2.2.1 ∈ am_W) (hv : am_ok Z g → am_av g a (am_ty ci k) k = v) (kk : am_Ev Z M d (pc + 3) ls (v :: rest) g r) : am_Ev Z M d pc ls (.ref a :: rest) g r := by
  refine ⟨kk.1, ?_⟩
  intro p l e R s m args below meth c σ τ D dA A α0 n0 s0 C α H locs la V hst
  have hS := hS V.2.2.2.1
  obtain rfl := hv V.2.2.2.1
  refine va_get (C := am_R ci) (T := am_T ci) (N := am_N ci) (ref := am_R ci) (index := idx) (Ts := am_W) C.1 C.2.1 C.2.2.2.2.2.1 (am_win ci hci) C.2.2.2.2.1 C.2.2.2.2.2.2.2.2.2.2.2.2.2.1.1 V.2.2.2.2.2.1 a ((am_wl_at hst.1).trans (by rw [am_E_obj hS hci])) (am_cl_at hci) k hk (C.2.2.2.2.2.1 _ hl) (am_same hci hk s) (am_fs_at hk _) hd ?_
  exact kk.2 p l e R s m args below meth c σ τ D dA A α0 n0 s0 C α H locs la V ⟨am_vo_av V.2.2.2.1 hst.1 _ _, hst.2⟩
theorem ev_pfi {x : Int32} (hd : decode M.2.1 pc = .ok (.putfield idx, 3)) (hS : am_ok Z g → am_S g a = (ci, len)) (k : Nat) (hci : ci < 13) (hk : k < am_N ci) (hl : Cond.fieldLink M.1.cls idx (am_R ci) (am_T ci k).2.1 (am_T ci k).2.2.1 ∈ am_W) (hfin : (am_T ci k).2.2.2 = false) (hn : narrow (am_ty ci k) (.int x) = .int x) (hf : fits (am_ty ci k) (.int x) = true) (hi : ∀ g' : am_G, am_av g' a (am_ty ci k) k = .int (am_I g' a k)) (kk : am_Ev Z M d (pc + 3) ls rest (am_si g a k x) r) : am_Ev Z M d pc ls (.int x :: .ref a :: rest) g r := by
  refine ⟨kk.1, ?_⟩
  intro p l e R s m args below meth c σ τ D dA A α0 n0 s0 C α H locs la V hst
  have hS := hS V.2.2.2.1
  have hE := am_wl_set (dA := dA) (σ := σ) (α := α) (g := g) (g' := am_si g a k x) (i := a) rfl (fun j hj => am_E_sr hj) (e := .inr (ci, ((List.range (am_N ci)).map fun k => am_cv σ α (am_av g a (am_ty ci k) k)).set k (am_cv σ α (.int x)))) (by
    rw [am_E_obj (show am_S (am_si g a k x) a = (ci, len) from hS) hci]
    congr 2
    refine am_fs_set _ _ _ _ (fun j hj => ?_) ?_
    · have h1 : am_I (am_si g a k x) a j = am_I g a j := by
        show am_up (am_I g) a _ a j = _
        rw [am_up_eq]
        exact am_up_ne hj
      have h2 : am_av (am_si g a k x) a (am_ty ci j) j = am_av g a (am_ty ci j) j := by
        unfold am_av
        rw [h1]
        rfl
      rw [h2]
    · rw [hi]
      show Value.int (am_up (am_I g) a _ a k) = _
      rw [am_up_eq, am_up_eq]
      rfl)
  refine va_put (C := am_R ci) (T := am_T ci) (N := am_N ci) (ref := am_R ci) (index := idx) (Ts := am_W) (ty := am_ty ci k) C.1 C.2.1 C.2.2.2.2.2.1 (am_win ci hci) (am_ty ci) (am_tyok ci hci) (am_nm ci hci) C.2.2.2.2.1 C.2.2.2.2.2.2.2.2.2.2.2.2.2.1.1 V.2.2.2.2.2.1 V.2.2.2.2.2.2.1 V.2.2.2.2.2.2.2.1 a ((am_wl_at hst.2.1).trans (by rw [am_E_obj hS hci])) (am_cl_at hci) k hk (C.2.2.2.2.2.1 _ hl) (am_same hci hk s) hfin (am_tyok ci hci k hk) hn hf (by simpa using hk) hd (fun H1 locs1 hP1 hD1 hS1 => ?_)
  rw [hE] at hP1 hD1
  exact kk.2 p l e R s m args below meth c σ τ D dA A α0 n0 s0 C α H1 locs1 la ⟨V.1, V.2.1, V.2.2.1, V.2.2.2.1, V.2.2.2.2.1, hP1, hD1, hS1, V.2.2.2.2.2.2.2.2⟩ hst.2.2
theorem ev_pfl {x : Int64} (hd : decode M.2.1 pc = .ok (.putfield idx, 3)) (hS : am_ok Z g → am_S g a = (ci, len)) (k : Nat) (hci : ci < 13) (hk : k < am_N ci) (hl : Cond.fieldLink M.1.cls idx (am_R ci) (am_T ci k).2.1 (am_T ci k).2.2.1 ∈ am_W) (hfin : (am_T ci k).2.2.2 = false) (hn : am_ty ci k = .long) (kk : am_Ev Z M d (pc + 3) ls rest (am_sl g a k x) r) : am_Ev Z M d pc ls (.long x :: .ref a :: rest) g r := by
  refine ⟨kk.1, ?_⟩
  intro p l e R s m args below meth c σ τ D dA A α0 n0 s0 C α H locs la V hst
  have hS := hS V.2.2.2.1
  have hE := am_wl_set (dA := dA) (σ := σ) (α := α) (g := g) (g' := am_sl g a k x) (i := a) rfl (fun j hj => am_E_srL hj) (e := .inr (ci, ((List.range (am_N ci)).map fun k => am_cv σ α (am_av g a (am_ty ci k) k)).set k (am_cv σ α (.long x)))) (by
    rw [am_E_obj (show am_S (am_sl g a k x) a = (ci, len) from hS) hci]
    congr 2
    refine am_fs_set _ _ _ _ (fun j hj => ?_) ?_
    · have h1 : am_L (am_sl g a k x) a j = am_L g a j := by
        show am_up (am_L g) a _ a j = _
        rw [am_up_eq]
        exact am_up_ne hj
      have h2 : am_av (am_sl g a k x) a (am_ty ci j) j = am_av g a (am_ty ci j) j := by
        unfold am_av
        rw [h1]
        rfl
      rw [h2]
    · rw [hn]
      show Value.long (am_up (am_L g) a _ a k) = _
      rw [am_up_eq, am_up_eq]
      rfl)
  refine va_put (C := am_R ci) (T := am_T ci) (N := am_N ci) (ref := am_R ci) (index := idx) (Ts := am_W) (ty := am_ty ci k) C.1 C.2.1 C.2.2.2.2.2.1 (am_win ci hci) (am_ty ci) (am_tyok ci hci) (am_nm ci hci) C.2.2.2.2.1 C.2.2.2.2.2.2.2.2.2.2.2.2.2.1.1 V.2.2.2.2.2.1 V.2.2.2.2.2.2.1 V.2.2.2.2.2.2.2.1 a ((am_wl_at hst.2.1).trans (by rw [am_E_obj hS hci])) (am_cl_at hci) k hk (C.2.2.2.2.2.1 _ hl) (am_same hci hk s) hfin (am_tyok ci hci k hk) (by rw [hn]; rfl) (by rw [hn]; rfl) (by simpa using hk) hd (fun H1 locs1 hP1 hD1 hS1 => ?_)
  rw [hE] at hP1 hD1
  exact kk.2 p l e R s m args below meth c σ τ D dA A α0 n0 s0 C α H1 locs1 la ⟨V.1, V.2.1, V.2.2.1, V.2.2.2.1, V.2.2.2.2.1, hP1, hD1, hS1, V.2.2.2.2.2.2.2.2⟩ hst.2.2
theorem am_ok_sp {Z : am_Z} {g : am_G} {a k b : Nat} (h : am_ok Z g) (hz : Z.2 a k = none) (hb : b < am_n g) : am_ok Z (am_sp g a k (some b)) := by
  refine ⟨fun i hi j q hq => ?_, h.2.1, fun i j q hq => ?_⟩
  · have hq : am_up (am_P g) a (am_up (am_P g a) k (some b)) i j = some q := hq
    by_cases h1 : i = a
    · subst h1
      rw [am_up_eq] at hq
      by_cases h2 : j = k
      · subst h2
        rw [am_up_eq] at hq
        cases hq
        exact hb
      · rw [am_up_ne h2] at hq
        exact h.1 i hi j q hq
    · rw [am_up_ne h1] at hq
      exact h.1 i hi j q hq
  · show am_up (am_P g) a (am_up (am_P g a) k (some b)) i j = some q
    by_cases h1 : i = a
    · subst h1
      rw [am_up_eq]
      by_cases h2 : j = k
      · subst h2
        rw [hz] at hq
        cases hq
      · rw [am_up_ne h2]
        exact h.2.2 i j q hq
    · rw [am_up_ne h1]
      exact h.2.2 i j q hq
/-- a final field of references, in the constructor -/
theorem ev_pfr {b : Nat} (hd : decode M.2.1 pc = .ok (.putfield idx, 3)) (hS : am_ok Z g → am_S g a = (ci, len)) (k : Nat) (hci : ci < 13) (hk : k < am_N ci) (hl : Cond.fieldLink M.1.cls idx (am_R ci) (am_T ci k).2.1 (am_T ci k).2.2.1 ∈ am_W) (hfin : (am_T ci k).2.2.2 = true) (hM : M.1.name = "<init>" ∧ am_R ci = M.1.cls) (hz : Z.2 a k = none) (hn : ∀ b : Nat, narrow (am_ty ci k) (.ref b) = .ref b) (hf : ∀ b : Nat, fits (am_ty ci k) (.ref b) = true) (hi : ∀ g' : am_G, am_av g' a (am_ty ci k) k = va_rf (am_P g' a k)) (kk : am_Ev Z M d (pc + 3) ls rest (am_sp g a k (some b)) r) : am_Ev Z M d pc ls (.ref b :: .ref a :: rest) g r := by
  refine ⟨kk.1, ?_⟩
  intro p l e R s m args below meth c σ τ D dA A α0 n0 s0 C α H locs la V hst
  have hS := hS V.2.2.2.1
  have hE := am_wl_set (dA := dA) (σ := σ) (α := α) (g := g) (g' := am_sp g a k (some b)) (i := a) rfl (fun j hj => am_E_srP hj) (e := .inr (ci, ((List.range (am_N ci)).map fun k => am_cv σ α (am_av g a (am_ty ci k) k)).set k (am_cv σ α (.ref b)))) (by
    rw [am_E_obj (show am_S (am_sp g a k (some b)) a = (ci, len) from hS) hci]
    congr 2
    refine am_fs_set _ _ _ _ (fun j hj => ?_) ?_
    · have h1 : am_P (am_sp g a k (some b)) a j = am_P g a j := by
        show am_up (am_P g) a _ a j = _
        rw [am_up_eq]
        exact am_up_ne hj
      have h2 : am_av (am_sp g a k (some b)) a (am_ty ci j) j = am_av g a (am_ty ci j) j := by
        unfold am_av
        rw [h1]
        rfl
      rw [h2]
    · rw [hi]
      show am_cv σ α (va_rf (am_up (am_P g) a _ a k)) = _
      rw [am_up_eq, am_up_eq]
      rfl)
  refine va_putF (C := am_R ci) (T := am_T ci) (N := am_N ci) (ref := am_R ci) (index := idx) (Ts := am_W) (ty := am_ty ci k) C.1 C.2.1 C.2.2.2.2.2.1 (am_win ci hci) (am_ty ci) (am_tyok ci hci) (am_nm ci hci) C.2.2.2.2.1 C.2.2.2.2.2.2.2.2.2.2.2.2.2.1.1 V.2.2.2.2.2.1 V.2.2.2.2.2.2.1 V.2.2.2.2.2.2.2.1 a ((am_wl_at hst.2.1).trans (by rw [am_E_obj hS hci])) (am_cl_at hci) k hk (C.2.2.2.2.2.1 _ hl) (am_same hci hk s) hfin (C.2.2.2.2.2.2.2.1.trans hM.1) ((am_own ci hci k hk).trans hM.2) (am_tyok ci hci k hk) (hn _) (hf _) (by simpa using hk) hd (fun H1 locs1 hP1 hD1 hS1 => ?_)
  rw [hE] at hP1 hD1
  exact kk.2 p l e R s m args below meth c σ τ D dA A α0 n0 s0 C α H1 locs1 la ⟨V.1, V.2.1, V.2.2.1, am_ok_sp V.2.2.2.1 hz hst.1, V.2.2.2.2.1, hP1, hD1, hS1, V.2.2.2.2.2.2.2.2⟩ hst.2.2
end AMH

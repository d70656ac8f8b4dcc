section AMA
variable {Z : am_Z} {M : am_M} {d pc : Nat} {ls : List (Nat × Value)} {rest : List Value} {g : am_G} {r : Option Value × am_G} {a len : Nat}
theorem am_kd {dA : Nat → ClassId} {kd : Nat} {ty : FieldType} {t0 : Nat} (h : (am_tys dA)[t0]? = some (dA kd, ty)) : (am_tys dA)[t0]? = some (dA kd, ty) := h
theorem ev_iald {i : Int32} (hd : decode M.2.1 pc = .ok (.iaload, 1)) (hS : am_ok Z g → am_S g a = (20, len)) (hin : vp_in i len) (kk : am_Ev Z M d (pc + 1) ls (.int (am_I g a i.toNatClampNeg) :: rest) g r) : am_Ev Z M d pc ls (.int i :: .ref a :: rest) g r := by
  refine ⟨kk.1, ?_⟩
  intro p l e R s m args below meth c σ τ D dA A α0 n0 s0 C α H locs la V hst
  have hS := hS V.2.2.2.1
  refine va_iald C.1 C.2.1 C.2.2.2.2.2.2.2.2.2.2.2.2.2.1.1 V.2.2.2.2.2.1 a 0 ((am_wl_at hst.2.1).trans (by rw [am_E_int hS (by omega) (by omega)])) rfl hin hd ?_
  exact kk.2 p l e R s m args below meth c σ τ D dA A α0 n0 s0 C α H locs la V ⟨trivial, hst.2.2⟩
theorem ev_bald {i : Int32} (hd : decode M.2.1 pc = .ok (.baload, 1)) (hS : am_ok Z g → am_S g a = (21, len)) (hin : vp_in i len) (kk : am_Ev Z M d (pc + 1) ls (.int (am_I g a i.toNatClampNeg) :: rest) g r) : am_Ev Z M d pc ls (.int i :: .ref a :: rest) g r := by
  refine ⟨kk.1, ?_⟩
  intro p l e R s m args below meth c σ τ D dA A α0 n0 s0 C α H locs la V hst
  have hS := hS V.2.2.2.1
  refine va_bald C.1 C.2.1 C.2.2.2.2.2.2.2.2.2.2.2.2.2.1.1 V.2.2.2.2.2.1 a 1 ((am_wl_at hst.2.1).trans (by rw [am_E_int hS (by omega) (by omega)])) rfl hin hd ?_
  exact kk.2 p l e R s m args below meth c σ τ D dA A α0 n0 s0 C α H locs la V ⟨trivial, hst.2.2⟩
theorem ev_zald {i : Int32} (hd : decode M.2.1 pc = .ok (.baload, 1)) (hS : am_ok Z g → am_S g a = (22, len)) (hin : vp_in i len) (kk : am_Ev Z M d (pc + 1) ls (.int (am_I g a i.toNatClampNeg) :: rest) g r) : am_Ev Z M d pc ls (.int i :: .ref a :: rest) g r := by
  refine ⟨kk.1, ?_⟩
  intro p l e R s m args below meth c σ τ D dA A α0 n0 s0 C α H locs la V hst
  have hS := hS V.2.2.2.1
  refine va_zald C.1 C.2.1 C.2.2.2.2.2.2.2.2.2.2.2.2.2.1.1 V.2.2.2.2.2.1 a 2 ((am_wl_at hst.2.1).trans (by rw [am_E_int hS (by omega) (by omega)])) rfl hin hd ?_
  exact kk.2 p l e R s m args below meth c σ τ D dA A α0 n0 s0 C α H locs la V ⟨trivial, hst.2.2⟩
theorem ev_lald {i : Int32} (hd : decode M.2.1 pc = .ok (.laload, 1)) (hS : am_ok Z g → am_S g a = (23, len)) (hin : vp_in i len) (kk : am_Ev Z M d (pc + 1) ls (.long (am_L g a i.toNatClampNeg) :: rest) g r) : am_Ev Z M d pc ls (.int i :: .ref a :: rest) g r := by
  refine ⟨kk.1, ?_⟩
  intro p l e R s m args below meth c σ τ D dA A α0 n0 s0 C α H locs la V hst
  have hS := hS V.2.2.2.1
  refine va_lald C.1 C.2.1 C.2.2.2.2.2.2.2.2.2.2.2.2.2.1.1 V.2.2.2.2.2.1 a 3 ((am_wl_at hst.2.1).trans (by rw [am_E_long hS])) rfl hin hd ?_
  exact kk.2 p l e R s m args below meth c σ τ D dA A α0 n0 s0 C α H locs la V ⟨trivial, hst.2.2⟩
/-- the kinds of arrays of references: 24 Pack, 25 Valley, 26 Text -/
def am_rk (kd : Nat) : Nat := if kd = 24 then 2 else if kd = 25 then 9 else 6
theorem am_rk_ty (dA : Nat → ClassId) {kd : Nat} (h1 : 24 ≤ kd) (h2 : kd < 27) : (am_tys dA)[kd - 20]? = some (dA kd, .object (am_R (am_rk kd))) := by
  rcases (show kd = 24 ∨ kd = 25 ∨ kd = 26 by omega) with rfl | rfl | rfl <;> rfl
theorem am_rk_lt (kd : Nat) : am_rk kd < 13 := by
  unfold am_rk
  split
  · decide
  · split <;> decide
theorem ev_aald {i : Int32} {kd : Nat} {v : Value} (hd : decode M.2.1 pc = .ok (.aaload, 1)) (hS : am_ok Z g → am_S g a = (kd, len)) (h1 : 24 ≤ kd) (h2 : kd < 27) (hin : vp_in i len) (hv : am_ok Z g → va_rf (am_P g a i.toNatClampNeg) = v) (kk : am_Ev Z M d (pc + 1) ls (v :: rest) g r) : am_Ev Z M d pc ls (.int i :: .ref a :: rest) g r := by
  refine ⟨kk.1, ?_⟩
  intro p l e R s m args below meth c σ τ D dA A α0 n0 s0 C α H locs la V hst
  have hS := hS V.2.2.2.1
  obtain rfl := hv V.2.2.2.1
  refine va_aldq C.1 C.2.1 C.2.2.2.2.2.2.2.2.2.2.2.2.2.1.1 V.2.2.2.2.2.1 a (kd - 20) ((am_wl_at hst.2.1).trans (by rw [am_E_ref hS (by omega)])) (am_rk_ty dA h1 h2) hin hd ?_
  have hk := kk.2 p l e R s m args below meth c σ τ D dA A α0 n0 s0 C α H locs la V ⟨by
    cases hp : am_P g a i.toNatClampNeg with
    | none => trivial
    | some b => exact V.2.2.2.1.1 a hst.2.1 _ b hp, hst.2.2⟩
  rw [List.map_cons, am_cv_rf] at hk
  exact hk
theorem ev_iast {i x : Int32} (hd : decode M.2.1 pc = .ok (.iastore, 1)) (hS : am_ok Z g → am_S g a = (20, len)) (hin : vp_in i len) (kk : am_Ev Z M d (pc + 1) ls rest (am_si g a i.toNatClampNeg x) r) : am_Ev Z M d pc ls (.int x :: .int i :: .ref a :: rest) g r := by
  refine ⟨kk.1, ?_⟩
  intro p l e R s m args below meth c σ τ D dA A α0 n0 s0 C α H locs la V hst
  have hS := hS V.2.2.2.1
  have hE := am_wl_set (dA := dA) (σ := σ) (α := α) (g := g) (g' := am_si g a i.toNatClampNeg x) (i := a) rfl (fun j hj => am_E_sr hj) (e := .inl (dA 20, len, .inl (upd (am_I g a) i.toNatClampNeg x))) (by
    rw [am_E_int (show am_S (am_si g a i.toNatClampNeg x) a = (20, len) from hS) (by omega) (by omega)]
    show Sum.inl (dA 20, len, Sum.inl (am_up (am_I g) a (am_up (am_I g a) i.toNatClampNeg x) a)) = _
    rw [am_up_eq]
    rfl)
  refine va_iast C.1 C.2.1 C.2.2.2.2.2.2.2.2.2.2.2.2.2.1.1 V.2.2.2.2.2.1 V.2.2.2.2.2.2.1 V.2.2.2.2.2.2.2.1 a 0 ((am_wl_at hst.2.2.1).trans (by rw [am_E_int hS (by omega) (by omega)])) rfl hin hd (fun H1 locs1 hP1 hD1 hS1 => ?_)
  rw [hE] at hP1 hD1
  exact kk.2 p l e R s m args below meth c σ τ D dA A α0 n0 s0 C α H1 locs1 la ⟨V.1, V.2.1, V.2.2.1, V.2.2.2.1, V.2.2.2.2.1, hP1, hD1, hS1, V.2.2.2.2.2.2.2.2⟩ hst.2.2.2
theorem ev_bast {i x : Int32} (hd : decode M.2.1 pc = .ok (.bastore, 1)) (hS : am_ok Z g → am_S g a = (21, len)) (hin : vp_in i len) (kk : am_Ev Z M d (pc + 1) ls rest (am_si g a i.toNatClampNeg (vp_nar .byte x)) r) : am_Ev Z M d pc ls (.int x :: .int i :: .ref a :: rest) g r := by
  refine ⟨kk.1, ?_⟩
  intro p l e R s m args below meth c σ τ D dA A α0 n0 s0 C α H locs la V hst
  have hS := hS V.2.2.2.1
  have hE := am_wl_set (dA := dA) (σ := σ) (α := α) (g := g) (g' := am_si g a i.toNatClampNeg (vp_nar .byte x)) (i := a) rfl (fun j hj => am_E_sr hj) (e := .inl (dA 21, len, .inl (upd (am_I g a) i.toNatClampNeg (vp_nar .byte x)))) (by
    rw [am_E_int (show am_S (am_si g a i.toNatClampNeg (vp_nar .byte x)) a = (21, len) from hS) (by omega) (by omega)]
    show Sum.inl (dA 21, len, Sum.inl (am_up (am_I g) a (am_up (am_I g a) i.toNatClampNeg (vp_nar .byte x)) a)) = _
    rw [am_up_eq]
    rfl)
  refine va_bast C.1 C.2.1 C.2.2.2.2.2.2.2.2.2.2.2.2.2.1.1 V.2.2.2.2.2.1 V.2.2.2.2.2.2.1 V.2.2.2.2.2.2.2.1 a 1 ((am_wl_at hst.2.2.1).trans (by rw [am_E_int hS (by omega) (by omega)])) rfl hin hd (fun H1 locs1 hP1 hD1 hS1 => ?_)
  rw [hE] at hP1 hD1
  exact kk.2 p l e R s m args below meth c σ τ D dA A α0 n0 s0 C α H1 locs1 la ⟨V.1, V.2.1, V.2.2.1, V.2.2.2.1, V.2.2.2.2.1, hP1, hD1, hS1, V.2.2.2.2.2.2.2.2⟩ hst.2.2.2
theorem ev_zast {i x : Int32} (hd : decode M.2.1 pc = .ok (.bastore, 1)) (hS : am_ok Z g → am_S g a = (22, len)) (hin : vp_in i len) (kk : am_Ev Z M d (pc + 1) ls rest (am_si g a i.toNatClampNeg (vp_nar .boolean x)) r) : am_Ev Z M d pc ls (.int x :: .int i :: .ref a :: rest) g r := by
  refine ⟨kk.1, ?_⟩
  intro p l e R s m args below meth c σ τ D dA A α0 n0 s0 C α H locs la V hst
  have hS := hS V.2.2.2.1
  have hE := am_wl_set (dA := dA) (σ := σ) (α := α) (g := g) (g' := am_si g a i.toNatClampNeg (vp_nar .boolean x)) (i := a) rfl (fun j hj => am_E_sr hj) (e := .inl (dA 22, len, .inl (upd (am_I g a) i.toNatClampNeg (vp_nar .boolean x)))) (by
    rw [am_E_int (show am_S (am_si g a i.toNatClampNeg (vp_nar .boolean x)) a = (22, len) from hS) (by omega) (by omega)]
    show Sum.inl (dA 22, len, Sum.inl (am_up (am_I g) a (am_up (am_I g a) i.toNatClampNeg (vp_nar .boolean x)) a)) = _
    rw [am_up_eq]
    rfl)
  refine va_zast C.1 C.2.1 C.2.2.2.2.2.2.2.2.2.2.2.2.2.1.1 V.2.2.2.2.2.1 V.2.2.2.2.2.2.1 V.2.2.2.2.2.2.2.1 a 2 ((am_wl_at hst.2.2.1).trans (by rw [am_E_int hS (by omega) (by omega)])) rfl hin hd (fun H1 locs1 hP1 hD1 hS1 => ?_)
  rw [hE] at hP1 hD1
  exact kk.2 p l e R s m args below meth c σ τ D dA A α0 n0 s0 C α H1 locs1 la ⟨V.1, V.2.1, V.2.2.1, V.2.2.2.1, V.2.2.2.2.1, hP1, hD1, hS1, V.2.2.2.2.2.2.2.2⟩ hst.2.2.2
theorem ev_last {i : Int32} {x : Int64} (hd : decode M.2.1 pc = .ok (.lastore, 1)) (hS : am_ok Z g → am_S g a = (23, len)) (hin : vp_in i len) (kk : am_Ev Z M d (pc + 1) ls rest (am_sl g a i.toNatClampNeg x) r) : am_Ev Z M d pc ls (.long x :: .int i :: .ref a :: rest) g r := by
  refine ⟨kk.1, ?_⟩
  intro p l e R s m args below meth c σ τ D dA A α0 n0 s0 C α H locs la V hst
  have hS := hS V.2.2.2.1
  have hE := am_wl_set (dA := dA) (σ := σ) (α := α) (g := g) (g' := am_sl g a i.toNatClampNeg x) (i := a) rfl (fun j hj => am_E_srL hj) (e := .inl (dA 23, len, .inr (.inl (vp_updL (am_L g a) i.toNatClampNeg x)))) (by
    rw [am_E_long (show am_S (am_sl g a i.toNatClampNeg x) a = (23, len) from hS)]
    show Sum.inl (dA 23, len, Sum.inr (Sum.inl (am_up (am_L g) a (am_up (am_L g a) i.toNatClampNeg x) a))) = _
    rw [am_up_eq]
    rfl)
  refine va_last C.1 C.2.1 C.2.2.2.2.2.2.2.2.2.2.2.2.2.1.1 V.2.2.2.2.2.1 V.2.2.2.2.2.2.1 V.2.2.2.2.2.2.2.1 a 3 ((am_wl_at hst.2.2.1).trans (by rw [am_E_long hS])) rfl hin hd (fun H1 locs1 hP1 hD1 hS1 => ?_)
  rw [hE] at hP1 hD1
  exact kk.2 p l e R s m args below meth c σ τ D dA A α0 n0 s0 C α H1 locs1 la ⟨V.1, V.2.1, V.2.2.1, V.2.2.2.1, V.2.2.2.2.1, hP1, hD1, hS1, V.2.2.2.2.2.2.2.2⟩ hst.2.2.2
theorem ev_aast {i : Int32} {kd v len' : Nat} (hd : decode M.2.1 pc = .ok (.aastore, 1)) (hS : am_ok Z g → am_S g a = (kd, len)) (h1 : 24 ≤ kd) (h2 : kd < 27) (hv : am_ok Z g → am_S g v = (am_rk kd, len')) (hin : vp_in i len) (hz : ∀ k, Z.2 a k = none) (kk : am_Ev Z M d (pc + 1) ls rest (am_sp g a i.toNatClampNeg (some v)) r) : am_Ev Z M d pc ls (.ref v :: .int i :: .ref a :: rest) g r := by
  refine ⟨kk.1, ?_⟩
  intro p l e R s m args below meth c σ τ D dA A α0 n0 s0 C α H locs la V hst
  have hS := hS V.2.2.2.1
  have hv := hv V.2.2.2.1
  have hE := am_wl_set (dA := dA) (σ := σ) (α := α) (g := g) (g' := am_sp g a i.toNatClampNeg (some v)) (i := a) rfl (fun j hj => am_E_srP hj) (e := .inl (dA kd, len, .inr (.inr (.inr (.inr (va_up (fun k => (am_P g a k).map α) i.toNatClampNeg (some (α v)))))))) (by
    rw [am_E_ref (show am_S (am_sp g a i.toNatClampNeg (some v)) a = (kd, len) from hS) (by omega)]
    congr 7
    funext k
    show (am_up (am_P g) a (am_up (am_P g a) i.toNatClampNeg (some v)) a k).map α = _
    rw [am_up_eq]
    unfold am_up va_up
    split <;> rfl)
  refine va_astq (r := (am_R (am_rk kd), am_T (am_rk kd), am_N (am_rk kd))) C.1 C.2.1 C.2.2.2.2.2.2.2.2.2.2.2.2.2.1.1 V.2.2.2.2.2.1 V.2.2.2.2.2.2.1 V.2.2.2.2.2.2.2.1 a (kd - 20) v (am_rk kd) ((am_wl_at hst.2.2.1).trans (by rw [am_E_ref hS (by omega)])) (am_rk_ty dA h1 h2) ((am_wl_at hst.1).trans (by rw [am_E_obj hv (am_rk_lt kd)])) (am_cl_at (am_rk_lt kd)) hin hd (fun H1 locs1 hP1 hD1 hS1 => ?_)
  rw [hE] at hP1 hD1
  exact kk.2 p l e R s m args below meth c σ τ D dA A α0 n0 s0 C α H1 locs1 la ⟨V.1, V.2.1, V.2.2.1, am_ok_sp V.2.2.2.1 (hz _) hst.1, V.2.2.2.2.1, hP1, hD1, hS1, V.2.2.2.2.2.2.2.2⟩ hst.2.2.2
theorem am_ok_spN {g : am_G} {a k : Nat} (h : am_ok Z g) (hz : Z.2 a k = none) : am_ok Z (am_sp g a k none) := by
  refine ⟨fun i hi j q hq => ?_, h.2.1, fun i j q hq => ?_⟩
  · have hq : am_up (am_P g) a (am_up (am_P g a) k none) i j = some q := hq
    by_cases h1 : i = a
    · subst h1
      rw [am_up_eq] at hq
      by_cases h2 : j = k
      · subst h2
        rw [am_up_eq] at hq
        cases hq
      · rw [am_up_ne h2] at hq
        exact h.1 i hi j q hq
    · rw [am_up_ne h1] at hq
      exact h.1 i hi j q hq
  · show am_up (am_P g) a (am_up (am_P g a) k none) i j = some q
    by_cases h1 : i = a
    · subst h1
      rw [am_up_eq]
      by_cases h2 : j = k
      · subst h2
        rw [hz] at hq
        cases hq
      · rw [am_up_ne h2]
        exact h.2.2 i j q hq
    · rw [am_up_ne h1]
      exact h.2.2 i j q hq
theorem ev_aastN {i : Int32} {kd : Nat} (hd : decode M.2.1 pc = .ok (.aastore, 1)) (hS : am_ok Z g → am_S g a = (kd, len)) (h1 : 24 ≤ kd) (h2 : kd < 27) (hin : vp_in i len) (hz : ∀ k, Z.2 a k = none) (kk : am_Ev Z M d (pc + 1) ls rest (am_sp g a i.toNatClampNeg none) r) : am_Ev Z M d pc ls (.null :: .int i :: .ref a :: rest) g r := by
  refine ⟨kk.1, ?_⟩
  intro p l e R s m args below meth c σ τ D dA A α0 n0 s0 C α H locs la V hst
  have hS := hS V.2.2.2.1
  have hE := am_wl_set (dA := dA) (σ := σ) (α := α) (g := g) (g' := am_sp g a i.toNatClampNeg none) (i := a) rfl (fun j hj => am_E_srP hj) (e := .inl (dA kd, len, .inr (.inr (.inr (.inr (va_up (fun k => (am_P g a k).map α) i.toNatClampNeg none)))))) (by
    rw [am_E_ref (show am_S (am_sp g a i.toNatClampNeg none) a = (kd, len) from hS) (by omega)]
    congr 7
    funext k
    show (am_up (am_P g) a (am_up (am_P g a) i.toNatClampNeg none) a k).map α = _
    rw [am_up_eq]
    unfold am_up va_up
    split <;> rfl)
  refine va_astqN C.1 C.2.1 C.2.2.2.2.2.2.2.2.2.2.2.2.2.1.1 V.2.2.2.2.2.1 V.2.2.2.2.2.2.1 V.2.2.2.2.2.2.2.1 a (kd - 20) ((am_wl_at hst.2.2.1).trans (by rw [am_E_ref hS (by omega)])) (am_rk_ty dA h1 h2) hin hd (fun H1 locs1 hP1 hD1 hS1 => ?_)
  rw [hE] at hP1 hD1
  exact kk.2 p l e R s m args below meth c σ τ D dA A α0 n0 s0 C α H1 locs1 la ⟨V.1, V.2.1, V.2.2.1, am_ok_spN V.2.2.2.1 (hz _), V.2.2.2.2.1, hP1, hD1, hS1, V.2.2.2.2.2.2.2.2⟩ hst.2.2.2
theorem ev_alen (hd : decode M.2.1 pc = .ok (.arraylength, 1)) (hS : am_ok Z g → am_S g a = (20, len)) (kk : am_Ev Z M d (pc + 1) ls (.int (Int32.ofNat len) :: rest) g r) : am_Ev Z M d pc ls (.ref a :: rest) g r := by
  refine ⟨kk.1, ?_⟩
  intro p l e R s m args below meth c σ τ D dA A α0 n0 s0 C α H locs la V hst
  have hS := hS V.2.2.2.1
  refine va_alen C.1 C.2.1 C.2.2.2.2.2.2.2.2.2.2.2.2.2.1.1 V.2.2.2.2.2.1 a 0 ((am_wl_at hst.1).trans (by rw [am_E_int hS (by omega) (by omega)])) rfl rfl hd ?_
  exact kk.2 p l e R s m args below meth c σ τ D dA A α0 n0 s0 C α H locs la V ⟨trivial, hst.2⟩
/-- System.arraycopy over ints -/
def am_cp (g : am_G) (a0 a sp dp n : Nat) : am_G := am_sr g a (va_cpy (am_I g a0) (am_I g a) sp dp n)
theorem ev_copyi {a0 len0 idx : Nat} {sp dp n : Int32} (hd : decode M.2.1 pc = .ok (.invokestatic idx, 3)) (hl : Cond.methodLink M.1.cls idx arraycopyName ∈ am_W) (hnat : Cond.native arraycopyName ∈ am_W) (hstat : Cond.static arraycopyName ∈ am_W) (hini : Cond.initialized "java/lang/System" ∈ am_W) (hS0 : am_ok Z g → am_S g a0 = (20, len0)) (hS : am_ok Z g → am_S g a = (20, len)) (h1 : ¬ sp < 0) (h2 : ¬ dp < 0) (h3 : ¬ n < 0) (h4 : sp.toNatClampNeg + n.toNatClampNeg ≤ len0) (h5 : dp.toNatClampNeg + n.toNatClampNeg ≤ len) (hcat : (rest.map fun v => v.category).sum ≤ 8) (kk : am_Ev Z M d (pc + 3) ls rest (am_cp g a0 a sp.toNatClampNeg dp.toNatClampNeg n.toNatClampNeg) r) : am_Ev Z M d pc ls (.int n :: .int dp :: .ref a :: .int sp :: .ref a0 :: rest) g r := by
  refine ⟨kk.1, ?_⟩
  intro p l e R s m args below meth c σ τ D dA A α0 n0 s0 C α H locs la V hst
  have hS0 := hS0 V.2.2.2.1
  have hS := hS V.2.2.2.1
  have hE := am_wl_set (dA := dA) (σ := σ) (α := α) (g := g) (g' := am_cp g a0 a sp.toNatClampNeg dp.toNatClampNeg n.toNatClampNeg) (i := a) rfl (fun j hj => am_E_sr hj) (e := .inl (dA 20, len, .inl (va_cpy (am_I g a0) (am_I g a) sp.toNatClampNeg dp.toNatClampNeg n.toNatClampNeg))) (by
    rw [am_E_int (show am_S (am_cp g a0 a sp.toNatClampNeg dp.toNatClampNeg n.toNatClampNeg) a = (20, len) from hS) (by omega) (by omega)]
    show Sum.inl (dA 20, len, Sum.inl (am_up (am_I g) a _ a)) = _
    rw [am_up_eq])
  have hcs : ((rest.map (am_cv σ α)).map fun v => v.category) = rest.map fun v => v.category := by
    rw [List.map_map]
    exact List.map_congr_left fun v _ => am_cat σ α v
  have hfr : 1 ≤ R.frames := by have := C.2.2.2.2.2.2.2.2.2.1; omega
  have hlo : ((rest.map (am_cv σ α)).map fun v => v.category).sum + (nativeFrameWords "java/lang/System" "arraycopy" 5 + 11) ≤ R.locals := by
    have h9 := C.2.2.2.2.2.2.2.2.2.2.1
    have h8 : nativeFrameWords "java/lang/System" "arraycopy" 5 = 7 := by decide +kernel
    rw [hcs, h8]
    omega
  refine va_copyi (sp := sp) (dp := dp) (n := n) C.1 C.2.1 (C.2.2.2.1.trans V.2.2.2.2.2.2.2.2.1.symm) C.2.2.2.2.1 (C.2.2.2.2.2.1 _ hl) (C.2.2.2.2.2.1 _ hnat) (C.2.2.2.2.2.1 _ hstat) (C.2.2.2.2.2.1 _ hini) C.2.2.2.2.2.2.2.2.2.2.2.2.2.1.1 V.2.2.2.2.2.1 V.2.2.2.2.2.2.1 V.2.2.2.2.2.2.2.1 a0 a 0 0 ((am_wl_at hst.2.2.2.2.1).trans (by rw [am_E_int hS0 (by omega) (by omega)])) ((am_wl_at hst.2.2.1).trans (by rw [am_E_int hS (by omega) (by omega)])) rfl rfl rfl h1 h2 h3 h4 h5 (fun _ _ => rfl) hfr hlo hd (fun H1 locs1 hP1 hD1 hS1 => ?_)
  rw [hE] at hP1 hD1
  exact kk.2 p l e R s m args below meth c σ τ D dA A α0 n0 s0 C α H1 locs1 la ⟨V.1, V.2.1, V.2.2.1, V.2.2.2.1, V.2.2.2.2.1, hP1, hD1, hS1, V.2.2.2.2.2.2.2.2⟩ hst.2.2.2.2.2
theorem ev_max {idx : Nat} {x y : Int32} (hd : decode M.2.1 pc = .ok (.invokestatic idx, 3)) (hl : Cond.methodLink M.1.cls idx Lib.Math.max.name ∈ am_W) (hstat : Cond.static Lib.Math.max.name ∈ am_W) (hini : Cond.initialized "java/lang/Math" ∈ am_W) (hcode : Cond.code Lib.Math.max.name Lib.Math.max.code 2 (some .int) ∈ am_W) (hcat : (rest.map fun v => v.category).sum ≤ 8) (kk : am_Ev Z M d (pc + 3) ls (.int (if x < y then y else x) :: rest) g r) : am_Ev Z M d pc ls (.int y :: .int x :: rest) g r := by
  refine ⟨kk.1, ?_⟩
  intro p l e R s m args below meth c σ τ D dA A α0 n0 s0 C α H locs la V hst
  have hcs : ((rest.map (am_cv σ α)).map fun v => v.category) = rest.map fun v => v.category := by
    rw [List.map_map]
    exact List.map_congr_left fun v _ => am_cat σ α v
  refine va_mmax C.1 C.2.1 (C.2.2.2.1.trans V.2.2.2.2.2.2.2.2.1.symm) C.2.2.2.2.1 (C.2.2.2.2.2.1 _ hl) (C.2.2.2.2.2.1 _ hstat) (C.2.2.2.2.2.1 _ hini) (C.2.2.2.2.2.1 _ hcode) (by have := C.2.2.2.2.2.2.2.2.2.1; omega) (by have h9 := C.2.2.2.2.2.2.2.2.2.2.1; rw [hcs]; omega) (by rw [C.2.2.2.2.2.2.2.2.2.2.2.1]; have := kk.1.1; omega) (by rw [C.2.2.2.2.2.2.2.2.2.2.2.2.1]; have := kk.1.2; omega) hd ?_
  exact kk.2 p l e R s m args below meth c σ τ D dA A α0 n0 s0 C α H locs la V ⟨trivial, hst.2.2⟩
theorem ev_min {idx : Nat} {x y : Int32} (hd : decode M.2.1 pc = .ok (.invokestatic idx, 3)) (hl : Cond.methodLink M.1.cls idx Lib.Math.min.name ∈ am_W) (hstat : Cond.static Lib.Math.min.name ∈ am_W) (hini : Cond.initialized "java/lang/Math" ∈ am_W) (hcode : Cond.code Lib.Math.min.name Lib.Math.min.code 2 (some .int) ∈ am_W) (hcat : (rest.map fun v => v.category).sum ≤ 8) (kk : am_Ev Z M d (pc + 3) ls (.int (if y < x then y else x) :: rest) g r) : am_Ev Z M d pc ls (.int y :: .int x :: rest) g r := by
  refine ⟨kk.1, ?_⟩
  intro p l e R s m args below meth c σ τ D dA A α0 n0 s0 C α H locs la V hst
  have hcs : ((rest.map (am_cv σ α)).map fun v => v.category) = rest.map fun v => v.category := by
    rw [List.map_map]
    exact List.map_congr_left fun v _ => am_cat σ α v
  refine va_mmin C.1 C.2.1 (C.2.2.2.1.trans V.2.2.2.2.2.2.2.2.1.symm) C.2.2.2.2.1 (C.2.2.2.2.2.1 _ hl) (C.2.2.2.2.2.1 _ hstat) (C.2.2.2.2.2.1 _ hini) (C.2.2.2.2.2.1 _ hcode) (by have := C.2.2.2.2.2.2.2.2.2.1; omega) (by have h9 := C.2.2.2.2.2.2.2.2.2.2.1; rw [hcs]; omega) (by rw [C.2.2.2.2.2.2.2.2.2.2.2.1]; have := kk.1.1; omega) (by rw [C.2.2.2.2.2.2.2.2.2.2.2.2.1]; have := kk.1.2; omega) hd ?_
  exact kk.2 p l e R s m args below meth c σ τ D dA A α0 n0 s0 C α H locs la V ⟨trivial, hst.2.2⟩
theorem ev_objInit {idx : Nat} (hd : decode M.2.1 pc = .ok (.invokespecial idx, 3)) (hl : Cond.methodLink M.1.cls idx Lib.objectInit ∈ am_W) (hinst : Cond.instanceMethod Lib.objectInit ∈ am_W) (hcode : Cond.code Lib.objectInit ⟨#[0xb1]⟩ 1 none ∈ am_W) (hcat : (rest.map fun v => v.category).sum ≤ 8) (kk : am_Ev Z M d (pc + 3) ls rest g r) : am_Ev Z M d pc ls (.ref a :: rest) g r := by
  refine ⟨kk.1, ?_⟩
  intro p l e R s m args below meth c σ τ D dA A α0 n0 s0 C α H locs la V hst
  have hcs : ((rest.map (am_cv σ α)).map fun v => v.category) = rest.map fun v => v.category := by
    rw [List.map_map]
    exact List.map_congr_left fun v _ => am_cat σ α v
  have hfr : 1 ≤ R.frames := by have := C.2.2.2.2.2.2.2.2.2.1; omega
  have hlo : 2 * (F0 m pc la ((Value.ref a :: rest).map (am_cv σ α))).monitorRoom + ((rest.map (am_cv σ α)).map fun v => v.category).sum + 12 ≤ R.locals := by
    have h9 := C.2.2.2.2.2.2.2.2.2.2.1
    have h0 : (F0 m pc la ((Value.ref a :: rest).map (am_cv σ α))).monitorRoom = 0 := by first | rfl | simp [JFrame.monitorRoom]
    rw [hcs, h0]
    omega
  refine W.objInit C.1 C.2.1 C.2.2.2.2.1 (C.2.2.2.2.2.1 _ hl) (C.2.2.2.2.2.1 _ hinst) (C.2.2.2.2.2.1 _ hcode) rfl (V.2.2.2.2.2.2.2.2.1.trans C.2.2.2.1.symm) rfl hd hfr hlo ?_
  exact kk.2 p l e R s m args below meth c σ τ D dA A α0 n0 s0 C α H locs la V hst.2
end AMA

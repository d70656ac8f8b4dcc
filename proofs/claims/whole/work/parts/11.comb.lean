/-! ===== words of the translated programs ===== -/
def am_let {α β : Type} (x : α) (f : α → Option β) : Option β := f x
def am_gd {β : Type} (b : Bool) (k : Option β) : Option β := if b = true then k else none
def am_bd {α β : Type} (o : Option (α × am_G)) (k : α → am_G → Option β) : Option β := match o with
  | some q => k q.1 q.2
  | none => none
def am_oc {β : Type} (o : Option Nat) (ks : Nat → Option β) (kn : Option β) : Option β := match o with
  | some p => ks p
  | none => kn
def am_jn {κ β : Type} (k : κ) (f : κ → Option β) : Option β := f k
def am_in (i : Int32) (n : Nat) : Bool := !(decide (i < 0) || decide (n ≤ i.toNatClampNeg))
def am_zb (x : Int32) : Bool := decide (x = 0) || decide (x = 1)
def am_co (sp dp n : Int32) (l0 l : Nat) : Bool := !decide (sp < 0) && !decide (dp < 0) && !decide (n < 0) && decide (sp.toNatClampNeg + n.toNatClampNeg ≤ l0) && decide (dp.toNatClampNeg + n.toNatClampNeg ≤ l)
abbrev am_max (x y : Int32) : Int32 := if x < y then y else x
abbrev am_min (x y : Int32) : Int32 := if y < x then y else x
/-- how many turns a loop may take -/
def am_fu : Nat := 1048576
abbrev am_ri (r : Int32 × am_G) : Option Value × am_G := (some (.int r.1), r.2)
abbrev am_rl (r : Int64 × am_G) : Option Value × am_G := (some (.long r.1), r.2)
abbrev am_rv (r : Unit × am_G) : Option Value × am_G := (none, r.2)
abbrev am_rq (r : Option Nat × am_G) : Option Value × am_G := (some (va_rf r.1), r.2)
theorem am_let_elim {α β : Type} {x : α} {f : α → Option β} {r : β} {P : α → Prop} (h : am_let x f = some r) (k : ∀ y, f y = some r → P y) : P x := k x h
theorem am_let_ex {α β : Type} {x : α} {f : α → Option β} {r : β} (h : am_let x f = some r) : ∃ y, x = y ∧ f y = some r := ⟨x, rfl, h⟩
theorem am_gd_elim {β : Type} {b : Bool} {k : Option β} {r : β} (h : am_gd b k = some r) : b = true ∧ k = some r := by
  unfold am_gd at h
  split at h
  · exact ⟨by assumption, h⟩
  · cases h
theorem am_bd_elim {α β : Type} {o : Option (α × am_G)} {k : α → am_G → Option β} {r : β} (h : am_bd o k = some r) : ∃ v g, o = some (v, g) ∧ k v g = some r := by
  cases o with
  | none => cases h
  | some q => exact ⟨q.1, q.2, rfl, h⟩
theorem am_oc_elim {β : Type} {o : Option Nat} {ks : Nat → Option β} {kn : Option β} {r : β} {P : Prop} (h : am_oc o ks kn = some r) (h1 : ∀ p, o = some p → ks p = some r → P) (h2 : o = none → kn = some r → P) : P := by
  cases o with
  | none => exact h2 rfl h
  | some p => exact h1 p rfl h
theorem am_jn_elim {κ β : Type} {k : κ} {f : κ → Option β} {r : β} {P : Prop} (Q : κ → Prop) (h : am_jn k f = some r) (hq : Q k) (hb : ∀ j, Q j → f j = some r → P) : P := hb k hq h
theorem am_ifp {c : Prop} [Decidable c] {β : Type} {a b : Option β} {r : β} (hc : c) (h : (if c then a else b) = some r) : a = some r := by rw [if_pos hc] at h; exact h
theorem am_ifn {c : Prop} [Decidable c] {β : Type} {a b : Option β} {r : β} (hc : ¬ c) (h : (if c then a else b) = some r) : b = some r := by rw [if_neg hc] at h; exact h
theorem am_in_vp {i : Int32} {n : Nat} (h : am_in i n = true) : vp_in i n := by
  unfold am_in at h
  unfold vp_in
  simp only [Bool.not_eq_true', Bool.or_eq_false_iff, decide_eq_false_iff_not] at h
  rintro (h1 | h1)
  · exact h.1 h1
  · exact h.2 h1
theorem am_in_ge {n : Int32} {k : Nat} (h : am_in n k = true) : ¬ n < 0 := fun q => am_in_vp h (Or.inl q)
theorem am_in_le {n : Int32} (h : am_in n 1000001 = true) : n.toNatClampNeg ≤ 1000000 := by
  have := am_in_vp h
  unfold vp_in at this
  omega
theorem am_rq_s {Z : am_Z} {M : am_M} {d : Nat} {as : List Value} {g : am_G} {o : Option Nat} {g1 : am_G} {p : Nat} (h : am_Mt Z M d as g (am_rq (o, g1))) (e : o = some p) : am_Mt Z M d as g (some (.ref p), g1) := by subst e; exact h
theorem am_rq_n {Z : am_Z} {M : am_M} {d : Nat} {as : List Value} {g : am_G} {o : Option Nat} {g1 : am_G} (h : am_Mt Z M d as g (am_rq (o, g1))) (e : o = none) : am_Mt Z M d as g (some .null, g1) := by subst e; exact h
theorem am_zb_or {x : Int32} (h : am_zb x = true) : x = 0 ∨ x = 1 := by
  unfold am_zb at h
  simpa using h
theorem am_zb_n {x : Int32} (h : am_zb x = true) : narrow .boolean (.int x) = .int x := by
  rcases am_zb_or h with rfl | rfl <;> rfl
theorem am_zb_f {x : Int32} (h : am_zb x = true) : fits .boolean (.int x) = true := by
  rcases am_zb_or h with rfl | rfl <;> rfl
theorem am_zb_v {x : Int32} (h : am_zb x = true) : vp_nar .boolean x = x := by
  rcases am_zb_or h with rfl | rfl <;> rfl
theorem am_co_elim {sp dp n : Int32} {l0 l : Nat} (h : am_co sp dp n l0 l = true) : (¬ sp < 0) ∧ (¬ dp < 0) ∧ (¬ n < 0) ∧ sp.toNatClampNeg + n.toNatClampNeg ≤ l0 ∧ dp.toNatClampNeg + n.toNatClampNeg ≤ l := by
  unfold am_co at h
  simpa [and_assoc] using h
theorem am_ti {x y : Int32} {k : Int} (c : ¬ x = y) (hy : y.toInt = k) : ¬ x.toInt = k := fun h => c (Int32.toInt_inj.mp (h.trans hy.symm))
theorem am_sh {g : am_G} {a ci len : Nat} (h : decide (am_S g a = (ci, len)) = true) : am_S g a = (ci, len) := of_decide_eq_true h
theorem am_shk {g : am_G} {a kd : Nat} (h : decide ((am_S g a).1 = kd) = true) : am_S g a = (kd, (am_S g a).2) := Prod.ext (of_decide_eq_true h) rfl
section AMS
variable {Z : am_Z} {M M' : am_M} {d d' pc : Nat} {ls : List (Nat × Value)} {rest st as : List Value} {g g1 : am_G} {r : Option Value × am_G} {a idx : Nat}
theorem ev_sub {ls' : List (Nat × Value)} (ks : List Nat) (hk : ks.filterMap (fun k => ls[k]?) = ls') (kk : am_Ev Z M d pc ls' st g r) : am_Ev Z M d pc ls st g r := by
  refine ⟨kk.1, ?_⟩
  intro p l e R s m args below meth c σ τ D dA A α0 n0 s0 C α H locs la V hst
  have hmem : ∀ q ∈ ls', q ∈ ls := by
    intro q hq
    rw [← hk] at hq
    obtain ⟨k, -, hk⟩ := List.mem_filterMap.mp hq
    exact List.mem_of_getElem? hk
  refine kk.2 p l e R s m args below meth c σ τ D dA A α0 n0 s0 C α H locs la ⟨V.1, V.2.1, V.2.2.1, V.2.2.2.1, fun q hq => V.2.2.2.2.1 q (hmem q hq), V.2.2.2.2.2.1, V.2.2.2.2.2.2.1, V.2.2.2.2.2.2.2.1, V.2.2.2.2.2.2.2.2.1, V.2.2.2.2.2.2.2.2.2.1, fun q hq => ?_⟩ hst
  obtain ⟨x, hx, rfl⟩ := List.mem_map.mp hq
  exact V.2.2.2.2.2.2.2.2.2.2 _ (List.mem_map.mpr ⟨x, hmem x hx, rfl⟩)
theorem ev_zast' {i x : Int32} {len : Nat} (hd : decode M.2.1 pc = .ok (.bastore, 1)) (hS : am_ok Z g → am_S g a = (22, len)) (hx : am_zb x = true) (hin : vp_in i len) (kk : am_Ev Z M d (pc + 1) ls rest (am_si g a i.toNatClampNeg x) r) : am_Ev Z M d pc ls (.int x :: .int i :: .ref a :: rest) g r := by
  refine ev_zast hd hS hin ?_
  rw [am_zb_v hx]
  exact kk
theorem ev_callVi {ci len : Nat} {v : Int32} (as rest : List Value) (hd : decode M.2.1 pc = .ok (.invokevirtual idx, 3)) (hmt : am_Mt Z M' d' (.ref a :: as) g (some (.int v), g1)) (hdd : d' < d) (hM : am_Mo M' as.length) (hl : Cond.methodLink M.1.cls idx M'.1 ∈ am_W) (hin : Cond.instanceMethod M'.1 ∈ am_W) (hse : Cond.selects M'.1.cls M'.1 M'.1 ∈ am_W) (hS : am_ok Z g → am_S g a = (ci, len)) (hci : ci < 13) (hR : am_R ci = M'.1.cls) (hcat : (rest.map fun v => v.category).sum ≤ 8) (kk : am_Ev Z M d (pc + 3) ls (.int v :: rest) g1 r) : am_Ev Z M d pc ls (as.reverse ++ .ref a :: rest) g r := ev_callV hd hmt hdd hM hl hin hse hS hci hR hcat kk
theorem ev_callVNi {ci len : Nat} {host : String} {v : Int32} (as rest : List Value) (hd : decode M.2.1 pc = .ok (.invokevirtual idx, 3)) (hmt : am_Mt Z M' d' (.ref a :: as) g (some (.int v), g1)) (hdd : d' < d) (hM : am_Mo M' as.length) (hl : Cond.methodLinkNest M.1.cls idx M'.1 host ∈ am_nw) (hin : Cond.instanceMethod M'.1 ∈ am_W) (hse : Cond.selects M'.1.cls M'.1 M'.1 ∈ am_W) (hS : am_ok Z g → am_S g a = (ci, len)) (hci : ci < 13) (hR : am_R ci = M'.1.cls) (hcat : (rest.map fun v => v.category).sum ≤ 8) (kk : am_Ev Z M d (pc + 3) ls (.int v :: rest) g1 r) : am_Ev Z M d pc ls (as.reverse ++ .ref a :: rest) g r := ev_callVN hd hmt hdd hM hl hin hse hS hci hR hcat kk
theorem ev_callSi {v : Int32} (as rest : List Value) (hd : decode M.2.1 pc = .ok (.invokestatic idx, 3)) (hmt : am_Mt Z M' d' as g (some (.int v), g1)) (hdd : d' < d) (hM : am_Mo M' as.length) (hl : Cond.methodLink M.1.cls idx M'.1 ∈ am_W) (hst0 : Cond.static M'.1 ∈ am_W) (hcat : (rest.map fun v => v.category).sum ≤ 8) (kk : am_Ev Z M d (pc + 3) ls (.int v :: rest) g1 r) : am_Ev Z M d pc ls (as.reverse ++ rest) g r := ev_callS hd hmt hdd hM hl hst0 hcat kk
theorem ev_callSNi {host : String} {v : Int32} (as rest : List Value) (hd : decode M.2.1 pc = .ok (.invokestatic idx, 3)) (hmt : am_Mt Z M' d' as g (some (.int v), g1)) (hdd : d' < d) (hM : am_Mo M' as.length) (hl : Cond.methodLinkNest M.1.cls idx M'.1 host ∈ am_nw) (hst0 : Cond.static M'.1 ∈ am_W) (hcat : (rest.map fun v => v.category).sum ≤ 8) (kk : am_Ev Z M d (pc + 3) ls (.int v :: rest) g1 r) : am_Ev Z M d pc ls (as.reverse ++ rest) g r := ev_callSN hd hmt hdd hM hl hst0 hcat kk
theorem ev_callVl {ci len : Nat} {v : Int64} (as rest : List Value) (hd : decode M.2.1 pc = .ok (.invokevirtual idx, 3)) (hmt : am_Mt Z M' d' (.ref a :: as) g (some (.long v), g1)) (hdd : d' < d) (hM : am_Mo M' as.length) (hl : Cond.methodLink M.1.cls idx M'.1 ∈ am_W) (hin : Cond.instanceMethod M'.1 ∈ am_W) (hse : Cond.selects M'.1.cls M'.1 M'.1 ∈ am_W) (hS : am_ok Z g → am_S g a = (ci, len)) (hci : ci < 13) (hR : am_R ci = M'.1.cls) (hcat : (rest.map fun v => v.category).sum ≤ 8) (kk : am_Ev Z M d (pc + 3) ls (.long v :: rest) g1 r) : am_Ev Z M d pc ls (as.reverse ++ .ref a :: rest) g r := ev_callV hd hmt hdd hM hl hin hse hS hci hR hcat kk
theorem ev_callVNl {ci len : Nat} {host : String} {v : Int64} (as rest : List Value) (hd : decode M.2.1 pc = .ok (.invokevirtual idx, 3)) (hmt : am_Mt Z M' d' (.ref a :: as) g (some (.long v), g1)) (hdd : d' < d) (hM : am_Mo M' as.length) (hl : Cond.methodLinkNest M.1.cls idx M'.1 host ∈ am_nw) (hin : Cond.instanceMethod M'.1 ∈ am_W) (hse : Cond.selects M'.1.cls M'.1 M'.1 ∈ am_W) (hS : am_ok Z g → am_S g a = (ci, len)) (hci : ci < 13) (hR : am_R ci = M'.1.cls) (hcat : (rest.map fun v => v.category).sum ≤ 8) (kk : am_Ev Z M d (pc + 3) ls (.long v :: rest) g1 r) : am_Ev Z M d pc ls (as.reverse ++ .ref a :: rest) g r := ev_callVN hd hmt hdd hM hl hin hse hS hci hR hcat kk
theorem ev_callSl {v : Int64} (as rest : List Value) (hd : decode M.2.1 pc = .ok (.invokestatic idx, 3)) (hmt : am_Mt Z M' d' as g (some (.long v), g1)) (hdd : d' < d) (hM : am_Mo M' as.length) (hl : Cond.methodLink M.1.cls idx M'.1 ∈ am_W) (hst0 : Cond.static M'.1 ∈ am_W) (hcat : (rest.map fun v => v.category).sum ≤ 8) (kk : am_Ev Z M d (pc + 3) ls (.long v :: rest) g1 r) : am_Ev Z M d pc ls (as.reverse ++ rest) g r := ev_callS hd hmt hdd hM hl hst0 hcat kk
theorem ev_callSNl {host : String} {v : Int64} (as rest : List Value) (hd : decode M.2.1 pc = .ok (.invokestatic idx, 3)) (hmt : am_Mt Z M' d' as g (some (.long v), g1)) (hdd : d' < d) (hM : am_Mo M' as.length) (hl : Cond.methodLinkNest M.1.cls idx M'.1 host ∈ am_nw) (hst0 : Cond.static M'.1 ∈ am_W) (hcat : (rest.map fun v => v.category).sum ≤ 8) (kk : am_Ev Z M d (pc + 3) ls (.long v :: rest) g1 r) : am_Ev Z M d pc ls (as.reverse ++ rest) g r := ev_callSN hd hmt hdd hM hl hst0 hcat kk
theorem ev_callVv {ci len : Nat} (as rest : List Value) (hd : decode M.2.1 pc = .ok (.invokevirtual idx, 3)) (hmt : am_Mt Z M' d' (.ref a :: as) g (none, g1)) (hdd : d' < d) (hM : am_Mo M' as.length) (hl : Cond.methodLink M.1.cls idx M'.1 ∈ am_W) (hin : Cond.instanceMethod M'.1 ∈ am_W) (hse : Cond.selects M'.1.cls M'.1 M'.1 ∈ am_W) (hS : am_ok Z g → am_S g a = (ci, len)) (hci : ci < 13) (hR : am_R ci = M'.1.cls) (hcat : (rest.map fun v => v.category).sum ≤ 8) (kk : am_Ev Z M d (pc + 3) ls (rest) g1 r) : am_Ev Z M d pc ls (as.reverse ++ .ref a :: rest) g r := ev_callV hd hmt hdd hM hl hin hse hS hci hR hcat kk
theorem ev_callVNv {ci len : Nat} {host : String} (as rest : List Value) (hd : decode M.2.1 pc = .ok (.invokevirtual idx, 3)) (hmt : am_Mt Z M' d' (.ref a :: as) g (none, g1)) (hdd : d' < d) (hM : am_Mo M' as.length) (hl : Cond.methodLinkNest M.1.cls idx M'.1 host ∈ am_nw) (hin : Cond.instanceMethod M'.1 ∈ am_W) (hse : Cond.selects M'.1.cls M'.1 M'.1 ∈ am_W) (hS : am_ok Z g → am_S g a = (ci, len)) (hci : ci < 13) (hR : am_R ci = M'.1.cls) (hcat : (rest.map fun v => v.category).sum ≤ 8) (kk : am_Ev Z M d (pc + 3) ls (rest) g1 r) : am_Ev Z M d pc ls (as.reverse ++ .ref a :: rest) g r := ev_callVN hd hmt hdd hM hl hin hse hS hci hR hcat kk
theorem ev_callSv (as rest : List Value) (hd : decode M.2.1 pc = .ok (.invokestatic idx, 3)) (hmt : am_Mt Z M' d' as g (none, g1)) (hdd : d' < d) (hM : am_Mo M' as.length) (hl : Cond.methodLink M.1.cls idx M'.1 ∈ am_W) (hst0 : Cond.static M'.1 ∈ am_W) (hcat : (rest.map fun v => v.category).sum ≤ 8) (kk : am_Ev Z M d (pc + 3) ls (rest) g1 r) : am_Ev Z M d pc ls (as.reverse ++ rest) g r := ev_callS hd hmt hdd hM hl hst0 hcat kk
theorem ev_callSNv {host : String} (as rest : List Value) (hd : decode M.2.1 pc = .ok (.invokestatic idx, 3)) (hmt : am_Mt Z M' d' as g (none, g1)) (hdd : d' < d) (hM : am_Mo M' as.length) (hl : Cond.methodLinkNest M.1.cls idx M'.1 host ∈ am_nw) (hst0 : Cond.static M'.1 ∈ am_W) (hcat : (rest.map fun v => v.category).sum ≤ 8) (kk : am_Ev Z M d (pc + 3) ls (rest) g1 r) : am_Ev Z M d pc ls (as.reverse ++ rest) g r := ev_callSN hd hmt hdd hM hl hst0 hcat kk
theorem ev_callVq {ci len : Nat} {v : Nat} (as rest : List Value) (hd : decode M.2.1 pc = .ok (.invokevirtual idx, 3)) (hmt : am_Mt Z M' d' (.ref a :: as) g (some (.ref v), g1)) (hdd : d' < d) (hM : am_Mo M' as.length) (hl : Cond.methodLink M.1.cls idx M'.1 ∈ am_W) (hin : Cond.instanceMethod M'.1 ∈ am_W) (hse : Cond.selects M'.1.cls M'.1 M'.1 ∈ am_W) (hS : am_ok Z g → am_S g a = (ci, len)) (hci : ci < 13) (hR : am_R ci = M'.1.cls) (hcat : (rest.map fun v => v.category).sum ≤ 8) (kk : am_Ev Z M d (pc + 3) ls (.ref v :: rest) g1 r) : am_Ev Z M d pc ls (as.reverse ++ .ref a :: rest) g r := ev_callV hd hmt hdd hM hl hin hse hS hci hR hcat kk
theorem ev_callVNq {ci len : Nat} {host : String} {v : Nat} (as rest : List Value) (hd : decode M.2.1 pc = .ok (.invokevirtual idx, 3)) (hmt : am_Mt Z M' d' (.ref a :: as) g (some (.ref v), g1)) (hdd : d' < d) (hM : am_Mo M' as.length) (hl : Cond.methodLinkNest M.1.cls idx M'.1 host ∈ am_nw) (hin : Cond.instanceMethod M'.1 ∈ am_W) (hse : Cond.selects M'.1.cls M'.1 M'.1 ∈ am_W) (hS : am_ok Z g → am_S g a = (ci, len)) (hci : ci < 13) (hR : am_R ci = M'.1.cls) (hcat : (rest.map fun v => v.category).sum ≤ 8) (kk : am_Ev Z M d (pc + 3) ls (.ref v :: rest) g1 r) : am_Ev Z M d pc ls (as.reverse ++ .ref a :: rest) g r := ev_callVN hd hmt hdd hM hl hin hse hS hci hR hcat kk
theorem ev_callSq {v : Nat} (as rest : List Value) (hd : decode M.2.1 pc = .ok (.invokestatic idx, 3)) (hmt : am_Mt Z M' d' as g (some (.ref v), g1)) (hdd : d' < d) (hM : am_Mo M' as.length) (hl : Cond.methodLink M.1.cls idx M'.1 ∈ am_W) (hst0 : Cond.static M'.1 ∈ am_W) (hcat : (rest.map fun v => v.category).sum ≤ 8) (kk : am_Ev Z M d (pc + 3) ls (.ref v :: rest) g1 r) : am_Ev Z M d pc ls (as.reverse ++ rest) g r := ev_callS hd hmt hdd hM hl hst0 hcat kk
theorem ev_callSNq {host : String} {v : Nat} (as rest : List Value) (hd : decode M.2.1 pc = .ok (.invokestatic idx, 3)) (hmt : am_Mt Z M' d' as g (some (.ref v), g1)) (hdd : d' < d) (hM : am_Mo M' as.length) (hl : Cond.methodLinkNest M.1.cls idx M'.1 host ∈ am_nw) (hst0 : Cond.static M'.1 ∈ am_W) (hcat : (rest.map fun v => v.category).sum ≤ 8) (kk : am_Ev Z M d (pc + 3) ls (.ref v :: rest) g1 r) : am_Ev Z M d pc ls (as.reverse ++ rest) g r := ev_callSN hd hmt hdd hM hl hst0 hcat kk
theorem ev_callVz {ci len : Nat} (as rest : List Value) (hd : decode M.2.1 pc = .ok (.invokevirtual idx, 3)) (hmt : am_Mt Z M' d' (.ref a :: as) g (some (.null), g1)) (hdd : d' < d) (hM : am_Mo M' as.length) (hl : Cond.methodLink M.1.cls idx M'.1 ∈ am_W) (hin : Cond.instanceMethod M'.1 ∈ am_W) (hse : Cond.selects M'.1.cls M'.1 M'.1 ∈ am_W) (hS : am_ok Z g → am_S g a = (ci, len)) (hci : ci < 13) (hR : am_R ci = M'.1.cls) (hcat : (rest.map fun v => v.category).sum ≤ 8) (kk : am_Ev Z M d (pc + 3) ls (.null :: rest) g1 r) : am_Ev Z M d pc ls (as.reverse ++ .ref a :: rest) g r := ev_callV hd hmt hdd hM hl hin hse hS hci hR hcat kk
theorem ev_callVNz {ci len : Nat} {host : String} (as rest : List Value) (hd : decode M.2.1 pc = .ok (.invokevirtual idx, 3)) (hmt : am_Mt Z M' d' (.ref a :: as) g (some (.null), g1)) (hdd : d' < d) (hM : am_Mo M' as.length) (hl : Cond.methodLinkNest M.1.cls idx M'.1 host ∈ am_nw) (hin : Cond.instanceMethod M'.1 ∈ am_W) (hse : Cond.selects M'.1.cls M'.1 M'.1 ∈ am_W) (hS : am_ok Z g → am_S g a = (ci, len)) (hci : ci < 13) (hR : am_R ci = M'.1.cls) (hcat : (rest.map fun v => v.category).sum ≤ 8) (kk : am_Ev Z M d (pc + 3) ls (.null :: rest) g1 r) : am_Ev Z M d pc ls (as.reverse ++ .ref a :: rest) g r := ev_callVN hd hmt hdd hM hl hin hse hS hci hR hcat kk
theorem ev_callSz (as rest : List Value) (hd : decode M.2.1 pc = .ok (.invokestatic idx, 3)) (hmt : am_Mt Z M' d' as g (some (.null), g1)) (hdd : d' < d) (hM : am_Mo M' as.length) (hl : Cond.methodLink M.1.cls idx M'.1 ∈ am_W) (hst0 : Cond.static M'.1 ∈ am_W) (hcat : (rest.map fun v => v.category).sum ≤ 8) (kk : am_Ev Z M d (pc + 3) ls (.null :: rest) g1 r) : am_Ev Z M d pc ls (as.reverse ++ rest) g r := ev_callS hd hmt hdd hM hl hst0 hcat kk
theorem ev_callSNz {host : String} (as rest : List Value) (hd : decode M.2.1 pc = .ok (.invokestatic idx, 3)) (hmt : am_Mt Z M' d' as g (some (.null), g1)) (hdd : d' < d) (hM : am_Mo M' as.length) (hl : Cond.methodLinkNest M.1.cls idx M'.1 host ∈ am_nw) (hst0 : Cond.static M'.1 ∈ am_W) (hcat : (rest.map fun v => v.category).sum ≤ 8) (kk : am_Ev Z M d (pc + 3) ls (.null :: rest) g1 r) : am_Ev Z M d pc ls (as.reverse ++ rest) g r := ev_callSN hd hmt hdd hM hl hst0 hcat kk
end AMS

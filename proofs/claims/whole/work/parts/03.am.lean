/-! ===== an abstract machine's heap: ints, longs, references, shapes (kind, length), how many cells, how many slots ===== -/
abbrev am_G : Type := (Nat → Nat → Int32) × (Nat → Nat → Int64) × (Nat → Nat → Option Nat) × (Nat → Nat × Nat) × Nat × Nat
def am_I (g : am_G) : Nat → Nat → Int32 := g.1
def am_L (g : am_G) : Nat → Nat → Int64 := g.2.1
def am_P (g : am_G) : Nat → Nat → Option Nat := g.2.2.1
def am_S (g : am_G) : Nat → Nat × Nat := g.2.2.2.1
def am_n (g : am_G) : Nat := g.2.2.2.2.1
def am_s (g : am_G) : Nat := g.2.2.2.2.2
def am_up {α : Type} (f : Nat → α) (k : Nat) (x : α) : Nat → α := fun j => if j = k then x else f j
def am_sr (g : am_G) (a : Nat) (f : Nat → Int32) : am_G := (am_up (am_I g) a f, g.2)
def am_srL (g : am_G) (a : Nat) (f : Nat → Int64) : am_G := (g.1, am_up (am_L g) a f, g.2.2)
def am_srP (g : am_G) (a : Nat) (f : Nat → Option Nat) : am_G := (g.1, g.2.1, am_up (am_P g) a f, g.2.2.2)
def am_si (g : am_G) (a k : Nat) (x : Int32) : am_G := am_sr g a (am_up (am_I g a) k x)
def am_sl (g : am_G) (a k : Nat) (x : Int64) : am_G := am_srL g a (am_up (am_L g a) k x)
def am_sp (g : am_G) (a k : Nat) (x : Option Nat) : am_G := am_srP g a (am_up (am_P g a) k x)
/-- a new cell: all of it 0, null -/
def am_new (g : am_G) (kd len : Nat) : am_G := (am_up (am_I g) (am_n g) (fun _ => 0), am_up (am_L g) (am_n g) (fun _ => 0), am_up (am_P g) (am_n g) (fun _ => none), am_up (am_S g) (am_n g) (kd, len), am_n g + 1, am_s g + len)
/-- a value as the abstract machine has it (a reference is a cell's number), as the machine has it -/
def am_cv (σ : Nat) (α : Nat → Nat) : Value → Value
  | .ref b => .ref (α b)
  | .retAddr _ => .ref σ
  | v => v
def am_vo (n : Nat) : Value → Prop
  | .ref b => b < n
  | _ => True
def am_so (n : Nat) : List Value → Prop
  | [] => True
  | v :: st => am_vo n v ∧ am_so n st
def am_av (g : am_G) (i : Nat) (ty : FieldType) (k : Nat) : Value := match ty with
  | .long => .long (am_L g i k)
  | .object _ => va_rf (am_P g i k)
  | .array _ => va_rf (am_P g i k)
  | _ => .int (am_I g i k)
def am_E (dA : Nat → ClassId) (σ : Nat) (α : Nat → Nat) (g : am_G) (i : Nat) : va_E :=
  if (am_S g i).1 < 20 then .inr ((am_S g i).1, (List.range (am_N (am_S g i).1)).map fun k => am_cv σ α (am_av g i (am_ty (am_S g i).1 k) k))
  else if (am_S g i).1 = 23 then .inl (dA 23, (am_S g i).2, .inr (.inl (am_L g i)))
  else if (am_S g i).1 < 23 then .inl (dA (am_S g i).1, (am_S g i).2, .inl (am_I g i))
  else .inl (dA (am_S g i).1, (am_S g i).2, .inr (.inr (.inr (.inr fun k => (am_P g i k).map α))))
def am_wl (dA : Nat → ClassId) (σ : Nat) (α : Nat → Nat) (g : am_G) : va_W := (List.range (am_n g)).map fun i => (α i, am_E dA σ α g i)
/-- cells that stand for good: their shapes, their references -/
abbrev am_Z : Type := (Nat → Option (Nat × Nat)) × (Nat → Nat → Option Nat)
/-- no reference beyond the cells; what stands for good -/
def am_ok (Z : am_Z) (g : am_G) : Prop := (∀ i, i < am_n g → ∀ k b, am_P g i k = some b → b < am_n g) ∧ (∀ a q, Z.1 a = some q → a < am_n g ∧ am_S g a = q) ∧ ∀ a k b, Z.2 a k = some b → am_P g a k = some b
def am_tys (dA : Nat → ClassId) : List (ClassId × FieldType) := [(dA 20, .int), (dA 21, .byte), (dA 22, .boolean), (dA 23, .long), (dA 24, .object (am_R 2)), (dA 25, .object (am_R 9)), (dA 26, .object (am_R 6))]
def am_isN : Cond → Bool
  | .methodLinkNest _ _ _ _ => true
  | .castable _ _ => true
  | _ => false
def am_nw : List Cond := lw_tbl.filter am_isN
/-- what the tables and old cells say: stays over every call -/
def am_X (σ τ : Nat) (D : va_G) (dA : Nat → ClassId) (s : State) : Prop :=
  va_K D am_cl (am_tys dA) s ∧ (∀ w ∈ am_nw, va_Nw w s) ∧ va_AO (am_R 2) s ∧ va_AO (am_R 9) s ∧ va_AO (am_R 6) s ∧ vk_R "WordSlides$Reader" am_sk am_stx σ s
def am_O (σ τ : Nat) (A : Nat → Prop) (s : State) (H : Heap) : Prop := vk_S 1 [am_sln] [am_sby] (fun _ => σ) (fun _ => τ) A s H ∧ va_Z "java/lang/String" "COMPACT_STRINGS" "Z" (.int 1) A s H ∧ va_Zq "jdk/internal/util/Preconditions" "SIOOBE_FORMATTER" "Ljava/util/function/BiFunction;" A s H
theorem am_X.warm {σ τ : Nat} {D : va_G} {dA : Nat → ClassId} {s U : State} (hW : s.WarmedH U.vm) (h : am_X σ τ D dA s) : am_X σ τ D dA U := by
  refine ⟨va_K.moved hW.alike h.1, fun w hw => ?_, va_AO.moved hW.alike h.2.2.1, va_AO.moved hW.alike h.2.2.2.1, va_AO.moved hW.alike h.2.2.2.2.1, vk_R.warm hW h.2.2.2.2.2⟩
  have h1 := h.2.1 w hw
  have h2 := (List.mem_filter.mp hw).2
  match w, h1, h2 with
  | .methodLinkNest a b c d, h1, _ => exact va_Nw.warmM hW h1
  | .castable a b, h1, _ => exact va_Nw.warmC hW h1
theorem am_X.same {σ τ : Nat} {D : va_G} {dA : Nat → ClassId} {s U : State} (hv : s.vm = U.vm) (h : am_X σ τ D dA s) : am_X σ τ D dA U := by
  have hal : s.vm.Alike U.vm := by rw [← hv]; exact (State.WarmedH.refl s).alike
  refine ⟨va_K.moved hal h.1, fun w hw => ?_, va_AO.moved hal h.2.2.1, va_AO.moved hal h.2.2.2.1, va_AO.moved hal h.2.2.2.2.1, vk_R.same hv.symm h.2.2.2.2.2⟩
  have h1 := h.2.1 w hw
  have h2 := (List.mem_filter.mp hw).2
  match w, h1, h2 with
  | .methodLinkNest a b c d, h1, _ => exact va_Nw.same rfl hv h1
  | .castable a b, h1, _ => exact va_Nw.same rfl hv h1
theorem am_O.moved {σ τ : Nat} {A : Nat → Prop} {u U : State} {H : Heap} (hvm : u.vm.Alike U.vm) (h : am_O σ τ A u H) : am_O σ τ A U H := ⟨vk_S.moved hvm h.1, va_Z.moved hvm h.2.1, va_Zq.moved hvm h.2.2⟩
theorem am_O.kept {σ τ : Nat} {A : Nat → Prop} {U : State} {H H1 : Heap} (h : am_O σ τ A U H) (hq : ∀ a : Nat, a < H.size → ¬ A a → H1[a]? = H[a]?) : am_O σ τ A U H1 := ⟨h.1.kept hq, h.2.1.kept hq, h.2.2.kept hq⟩
theorem am_O.narrow {σ τ : Nat} {A B : Nat → Prop} {U : State} {H : Heap} (h : am_O σ τ A U H) (hAB : ∀ q, B q → A q) : am_O σ τ B U H := ⟨h.1.narrow hAB, h.2.1.narrow hAB, h.2.2.narrow hAB⟩
/-! a method: its name, code, locals, what it returns -/
abbrev am_M : Type := MethodName × ByteArray × Nat × Option FieldType
def am_ws (M : am_M) : List Cond := Cond.code M.1 M.2.1 M.2.2.1 M.2.2.2 :: am_W
def am_Q (Z : am_Z) (σ : Nat) (D : va_G) (dA : Nat → ClassId) (A : Nat → Prop) (α0 : Nat → Nat) (n0 : Nat) (r : Option Value × am_G) : Array Value → State → Outcome → State → Prop := fun _ st o t =>
  (∃ α : Nat → Nat, o = .returned (r.1.map (am_cv σ α)) ∧ (∀ i, i < n0 → α i = α0 i) ∧ am_ok Z r.2 ∧ am_so (am_n r.2) r.1.toList ∧ va_P D am_cl (am_wl dA σ α r.2) t.heap ∧ va_D A (am_wl dA σ α r.2)) ∧ va_F A st t
def am_C (M : am_M) (d : Nat) (σ τ : Nat) (D : va_G) (dA : Nat → ClassId) (A : Nat → Prop) (n0 s0 : Nat) (r : Option Value × am_G) (p : Program) (R : Room) (s : State) (m : MethodId) (args : Array Value) (meth : Method) (c : Code) : Prop :=
  p.tables.exec = Jvm.exec ∧ c.code = M.2.1 ∧ meth.sig.returnType = M.2.2.2 ∧ c.maxLocals = M.2.2.1 ∧ s.vm.findClass M.1.cls = some m.cls ∧ (∀ w ∈ am_W, w.before args s = true) ∧ meth.locks = false ∧ meth.name = M.1.name ∧ (∀ q, s.heap.size ≤ q → A q) ∧ d + 1 ≤ R.frames ∧ 40 * d + 40 ≤ R.locals ∧ R.cells = am_n r.2 - n0 ∧ R.slots = am_s r.2 - s0 ∧ am_X σ τ D dA s ∧ am_O σ τ A s s.heap
/-- the locals, the world -/
def am_V (Z : am_Z) (M : am_M) (σ : Nat) (D : va_G) (dA : Nat → ClassId) (A : Nat → Prop) (α0 : Nat → Nat) (n0 s0 : Nat) (s : State) (ls : List (Nat × Value)) (g : am_G) (α : Nat → Nat) (H : Heap) (locs : List Loc) (la : Array Slot) : Prop :=
  (∀ i, i < n0 → α i = α0 i) ∧ n0 ≤ am_n g ∧ s0 ≤ am_s g ∧ am_ok Z g ∧ (∀ q ∈ ls, am_vo (am_n g) q.2) ∧ va_P D am_cl (am_wl dA σ α g) H ∧ va_D A (am_wl dA σ α g) ∧ va_S A s.heap H locs ∧ lv_has la M.2.2.1 (ls.map fun q => (q.1, am_cv σ α q.2))
/-- from there the method returns r.1, with the heap r.2 -/
def am_Ev (Z : am_Z) (M : am_M) (d pc : Nat) (ls : List (Nat × Value)) (st : List Value) (g : am_G) (r : Option Value × am_G) : Prop :=
  (am_n g ≤ am_n r.2 ∧ am_s g ≤ am_s r.2) ∧ ∀ (p : Program) (l : Launch) (e : Env) (R : Room) (s : State) (m : MethodId) (args : Array Value) (below : List Frame) (meth : Method) (c : Code) (σ τ : Nat) (D : va_G) (dA : Nat → ClassId) (A : Nat → Prop) (α0 : Nat → Nat) (n0 s0 : Nat),
    am_C M d σ τ D dA A n0 s0 r p R s m args meth c → ∀ (α : Nat → Nat) (H : Heap) (locs : List Loc) (la : Array Slot), am_V Z M σ D dA A α0 n0 s0 s ls g α H locs la → am_so (am_n g) st →
      W p l e R s m args below meth c H locs (am_n g - n0) (am_s g - s0) (MQ below (am_Q Z σ D dA A α0 n0 r) args s (am_n r.2 - n0) (am_s r.2 - s0) A) (F0 m pc la (st.map (am_cv σ α)))
/-- a method's contract: called so, it returns r.1, with the heap r.2 -/
def am_Mt (Z : am_Z) (M : am_M) (d : Nat) (as : List Value) (g : am_G) (r : Option Value × am_G) : Prop :=
  (am_n g ≤ am_n r.2 ∧ am_s g ≤ am_s r.2) ∧ ∀ (l : Launch) (σ τ : Nat) (D : va_G) (dA : Nat → ClassId) (α : Nat → Nat) (sz : Nat),
    Met l M.1 (am_ws M) { frames := d + 1, cells := am_n r.2 - am_n g, slots := am_s r.2 - am_s g, locals := 40 * d + 40 }
      (va_Pc (as.map (am_cv σ α)) (fun U => U.heap.size = sz ∧ am_ok Z g ∧ am_so (am_n g) as ∧ va_P D am_cl (am_wl dA σ α g) U.heap ∧ va_D (fun _ => True) (am_wl dA σ α g) ∧ am_X σ τ D dA U ∧ am_O σ τ (va_A (am_wl dA σ α g) sz) U U.heap))
      (am_Q Z σ D dA (va_A (am_wl dA σ α g) sz) α (am_n g) r) (am_n r.2 - am_n g) (am_s r.2 - am_s g) (va_A (am_wl dA σ α g) sz)
theorem am_cat (σ : Nat) (α : Nat → Nat) (v : Value) : (am_cv σ α v).category = v.category := by cases v <;> rfl
theorem am_filt (σ : Nat) (α : Nat → Nat) (i : Nat) (ls : List (Nat × Value)) : (ls.map fun q => (q.1, am_cv σ α q.2)).filter (fun q => !(q.1 == i) && !(q.1 + 1 == i && q.2.category == 2)) = (ls.filter (fun q => !(q.1 == i) && !(q.1 + 1 == i && q.2.category == 2))).map fun q => (q.1, am_cv σ α q.2) := by
  rw [List.filter_map]
  congr 1
  apply List.filter_congr
  intro q _
  simp only [Function.comp, am_cat]
theorem am_filt2 (σ : Nat) (α : Nat → Nat) (i : Nat) (ls : List (Nat × Value)) : (ls.map fun q => (q.1, am_cv σ α q.2)).filter (fun q => !(q.1 == i) && (!(q.1 == i + 1) && !(q.1 + 1 == i && q.2.category == 2))) = (ls.filter (fun q => !(q.1 == i) && (!(q.1 == i + 1) && !(q.1 + 1 == i && q.2.category == 2)))).map fun q => (q.1, am_cv σ α q.2) := by
  rw [List.filter_map]
  congr 1
  apply List.filter_congr
  intro q _
  simp only [Function.comp, am_cat]
theorem am_lv {σ : Nat} {α : Nat → Nat} {la : Array Slot} {nL : Nat} {ls : List (Nat × Value)} (h : lv_has la nL (ls.map fun q => (q.1, am_cv σ α q.2))) {k i : Nat} {v : Value} (hk : ls[k]? = some (i, v)) : la[i]? = some (.val (am_cv σ α v)) :=
  h.2.2 (i, am_cv σ α v) (List.mem_map.mpr ⟨(i, v), List.mem_of_getElem? hk, rfl⟩)
theorem am_V.store {Z : am_Z} {M : am_M} {σ : Nat} {D : va_G} {dA : Nat → ClassId} {A : Nat → Prop} {α0 : Nat → Nat} {n0 s0 : Nat} {s : State} {ls ls' : List (Nat × Value)} {g : am_G} {α : Nat → Nat} {H : Heap} {locs : List Loc} {la la' : Array Slot} (V : am_V Z M σ D dA A α0 n0 s0 s ls g α H locs la) {i : Nat} {v : Value} {f : Nat × Value → Bool} (hv : am_vo (am_n g) v) (hls : (i, v) :: ls.filter f = ls') (hl : lv_has la' M.2.2.1 (ls'.map fun q => (q.1, am_cv σ α q.2))) : am_V Z M σ D dA A α0 n0 s0 s ls' g α H locs la' := by
  obtain ⟨h1, h2, h3, h4, h5, h6, h7, h8, -⟩ := V
  refine ⟨h1, h2, h3, h4, fun q hq => ?_, h6, h7, h8, hl⟩
  rw [← hls] at hq
  rcases List.mem_cons.mp hq with rfl | hq
  · exact hv
  · exact h5 q (List.mem_filter.mp hq).1

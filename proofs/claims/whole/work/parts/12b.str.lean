/-! ===== clone of an int array; checkcast to it ===== -/
def am_cln (g : am_G) (a : Nat) : am_G := am_sr (am_new g 20 (am_S g a).2) (am_n g) (am_I g a)
theorem am_fcI {D : va_G} {dA : Nat → ClassId} {s : State} (hK : va_K D am_cl (am_tys dA) s) : s.vm.findClass "[I" = some (dA 20) := by
  have h : va_RA s (dA 20) .int := (hK.2 0 (dA 20, .int) rfl).2
  have h : s.vm.findClass ("[" ++ FieldType.int.toString) = some (dA 20) := h
  have e : ("[" ++ FieldType.int.toString) = "[I" := by decide +kernel
  rw [← e]
  exact h
theorem am_wl_cl {Z : am_Z} {dA : Nat → ClassId} {σ : Nat} {α : Nat → Nat} {g : am_G} {len q : Nat} {f : Nat → Int32} (hok : am_ok Z g) : am_wl dA σ α g ++ [(q, .inl (dA 20, len, .inl f))] = am_wl dA σ (am_up α (am_n g) q) (am_sr (am_new g 20 len) (am_n g) f) := by
  unfold am_wl
  show _ = (List.range (am_n g + 1)).map _
  rw [List.range_succ, List.map_append]
  congr 1
  · refine List.map_congr_left fun i hi => ?_
    have hi : i < am_n g := List.mem_range.mp hi
    rw [am_E_sr (by omega), am_E_new hok hi, am_up_ne (by omega)]
  · have hS : am_S (am_sr (am_new g 20 len) (am_n g) f) (am_n g) = (20, len) := by show am_up (am_S g) (am_n g) _ (am_n g) = _; rw [am_up_eq]
    rw [List.map_singleton, am_up_eq, am_E_int hS (by omega) (by omega)]
    show _ = [(q, Sum.inl (dA 20, len, Sum.inl (am_up _ (am_n g) f (am_n g))))]
    rw [am_up_eq]
section AMX
variable {Z : am_Z} {M : am_M} {d pc : Nat} {ls : List (Nat × Value)} {rest : List Value} {g : am_G} {r : Option Value × am_G} {a len idx : Nat}
theorem ev_clone (hd : decode M.2.1 pc = .ok (.invokevirtual idx, 3)) (hl : Cond.methodLink M.1.cls idx ⟨"[I", "clone", "()Ljava/lang/Object;"⟩ ∈ am_W) (hsame : Cond.sameMethod "[I" "java/lang/Object" "clone" "()Ljava/lang/Object;" ∈ am_W) (hnat : Cond.native ⟨"java/lang/Object", "clone", "()Ljava/lang/Object;"⟩ ∈ am_W) (hinst : Cond.instanceMethod ⟨"java/lang/Object", "clone", "()Ljava/lang/Object;"⟩ ∈ am_W) (hsel : Cond.selects "[I" ⟨"[I", "clone", "()Ljava/lang/Object;"⟩ ⟨"java/lang/Object", "clone", "()Ljava/lang/Object;"⟩ ∈ am_W) (hcl : Cond.castable "[I" "java/lang/Cloneable" ∈ am_nw) (hz : am_ok Z g → ∀ k, Z.2 (am_n g) k = none) (hS : am_ok Z g → am_S g a = (20, len)) (hcat : (rest.map fun v => v.category).sum ≤ 8) (kk : am_Ev Z M d (pc + 3) ls (.ref (am_n g) :: rest) (am_cln g a) r) : am_Ev Z M d pc ls (.ref a :: rest) g r := by
  have k1 : am_n g + 1 ≤ am_n r.2 := kk.1.1
  have k2 : am_s g + (am_S g a).2 ≤ am_s r.2 := kk.1.2
  refine ⟨⟨by omega, by omega⟩, ?_⟩
  intro p l e R s m args below meth c σ τ D dA A α0 n0 s0 C α H locs la V hst
  have v1 : n0 ≤ am_n g := V.2.1
  have v2 : s0 ≤ am_s g := V.2.2.1
  have hS := hS V.2.2.2.1
  have hS2 : (am_S g a).2 = len := by rw [hS]
  have hXx := C.2.2.2.2.2.2.2.2.2.2.2.2.2.1
  have hlo : ((rest.map (am_cv σ α)).map fun v => v.category).sum + 14 ≤ R.locals := by
    have h9 := C.2.2.2.2.2.2.2.2.2.2.1
    rw [am_cats]
    omega
  refine va_clone (ad := "[I") (x := (len, .inl (am_I g a))) (ty := .int) C.1 C.2.1 (C.2.2.2.1.trans V.2.2.2.2.2.2.2.2.1.symm) C.2.2.2.2.1 (C.2.2.2.2.2.1 _ hl) (C.2.2.2.2.2.1 _ hsame) (C.2.2.2.2.2.1 _ hnat) (C.2.2.2.2.2.1 _ hinst) (C.2.2.2.2.2.1 _ hsel) (hXx.2.1 _ hcl) hXx.1 V.2.2.2.2.2.1 V.2.2.2.2.2.2.1 V.2.2.2.2.2.2.2.1 C.2.2.2.2.2.2.2.2.1 a 0 ((am_wl_at hst.1).trans (by rw [am_E_int hS (by omega) (by omega)])) rfl (am_fcI hXx.1) (fun i v hv => ?_) (by have := C.2.2.2.2.2.2.2.2.2.1; omega) hlo (by rw [C.2.2.2.2.2.2.2.2.2.2.2.1]; omega) (by rw [C.2.2.2.2.2.2.2.2.2.2.2.2.1]; show am_s g - s0 + len ≤ _; omega) hd (fun q H1 hK1 hP1 hD1 hS1 => ?_)
  · rw [vp_cell_i] at hv
    have hi : i < len := by
      have := (Array.getElem?_eq_some_iff.mp hv).1
      rw [arrV_size] at this
      exact this
    rw [arrV_read _ _ hi] at hv
    cases hv
    rfl
  rw [am_wl_cl V.2.2.2.1, ← hS2] at hP1 hD1
  have hα : ∀ j, j < am_n g → am_up α (am_n g) q j = α j := fun j hj => am_up_ne (by omega)
  have V' : am_V Z M σ D dA A α0 n0 s0 s ls (am_cln g a) (am_up α (am_n g) q) H1 locs la := by
    obtain ⟨h1, h2, h3, h4, h5, -, -, -, h9⟩ := V
    refine ⟨fun i hi => (hα i (by omega)).trans (h1 i hi), Nat.le_succ_of_le h2, Nat.le_trans h3 (Nat.le_add_right _ _), am_ok_new h4 (hz h4), fun x hx => am_vo_le (Nat.le_succ _) (h5 x hx), hP1, hD1, hS1, ?_⟩
    rw [am_ls_ext hα h5]
    exact h9
  have hk := kk.2 p l e R s m args below meth c σ τ D dA A α0 n0 s0 C (am_up α (am_n g) q) H1 locs la V' ⟨Nat.lt_succ_self _, am_so_le (Nat.le_succ _) hst.2⟩
  rw [List.map_cons, am_so_ext hα hst.2] at hk
  have e1 : am_cv σ (am_up α (am_n g) q) (.ref (am_n g)) = .ref q := by show Value.ref (am_up α (am_n g) q (am_n g)) = _; rw [am_up_eq]
  rw [e1] at hk
  refine W.cs (cells' := am_n (am_cln g a) - n0) (slots' := am_s (am_cln g a) - s0) ?_ ?_ hk
  · show am_n g - n0 + 1 = am_n g + 1 - n0
    omega
  · show am_s g - s0 + len = am_s g + (am_S g a).2 - s0
    omega
theorem ev_castI (hd : decode M.2.1 pc = .ok (.checkcast idx, 3)) (hl : Cond.classLink M.1.cls idx "[I" ∈ am_W) (hS : am_ok Z g → am_S g a = (20, len)) (kk : am_Ev Z M d (pc + 3) ls (.ref a :: rest) g r) : am_Ev Z M d pc ls (.ref a :: rest) g r := by
  refine ⟨kk.1, ?_⟩
  intro p l e R s m args below meth c σ τ D dA A α0 n0 s0 C α H locs la V hst
  have hS := hS V.2.2.2.1
  refine va_castA C.1 C.2.1 C.2.2.2.2.1 (C.2.2.2.2.2.1 _ hl) V.2.2.2.2.2.1 a ((am_wl_at hst.1).trans (by rw [am_E_int hS (by omega) (by omega)])) (am_fcI C.2.2.2.2.2.2.2.2.2.2.2.2.2.1.1) hd ?_
  exact kk.2 p l e R s m args below meth c σ τ D dA A α0 n0 s0 C α H locs la V hst
end AMX
/-! ===== the constant text: length and charAt, walked through the JDK's own methods ===== -/
def sg_P (σ τ : Nat) (as : List Value) : Array Value → State → Prop := va_Pc as (fun U => am_O σ τ (fun _ => False) U U.heap)
def sg_N : Array Value → State → Outcome → State → Prop := fun _ st o t => o = .returned none ∧ t.heap = st.heap
abbrev sg_R (d : Nat) : Room := { frames := d, cells := 0, slots := 0, locals := 40 * d }
def sg_C (M : am_M) (d σ τ : Nat) (p : Program) (R : Room) (s : State) (m : MethodId) (args : Array Value) (meth : Method) (c : Code) : Prop :=
  p.tables.exec = Jvm.exec ∧ c.code = M.2.1 ∧ meth.sig.returnType = M.2.2.2 ∧ c.maxLocals = M.2.2.1 ∧ s.vm.findClass M.1.cls = some m.cls ∧ (∀ w ∈ am_W, w.before args s = true) ∧ meth.locks = false ∧ R = sg_R d ∧ am_O σ τ (fun _ => False) s s.heap
theorem sg_of {l : Launch} {M : am_M} {d σ τ : Nat} {as : List Value} {Qc : Array Value → State → Outcome → State → Prop} (hp : plainName M.1.cls = true) (hsl : (lg_sl as).length ≤ M.2.2.1)
    (h : ∀ (p : Program) (e : Env) (s : State) (m : MethodId) (below : List Frame) (meth : Method) (c : Code) (la : Array Slot), sg_C M d σ τ p (sg_R d) s m as.toArray meth c → lv_has la M.2.2.1 (lv_args 0 as) → W p l e (sg_R d) s m as.toArray below meth c s.heap [] 0 0 (MQ below Qc as.toArray s 0 0 (fun _ => False)) (F0 m 0 la [])) :
    Met l M.1 (am_ws M) (sg_R d) (sg_P σ τ as) Qc 0 0 (fun _ => False) := by
  refine Met.ofW (cc := M.2.1) (maxL := M.2.2.1) (ret := M.2.2.2) hp rfl ?_
  intro p e s m args below meth c s₁ B hml hv
  obtain ⟨rfl, hO⟩ := hv
  have hts := atoms_spec (ws := am_ws M) B.pre
  have hown : s.vm.findClass M.1.cls = some m.cls := findClass_of_methodNamed B.named
  have hl := lv_entry as (n := M.2.2.1) hsl
  rw [lg_entry_eq]
  generalize (lg_sl as ++ List.replicate (M.2.2.1 - (lg_sl as).length) Slot.unset).toArray = la at hl ⊢
  exact h p e s m below meth c la ⟨B.exec, B.bytes, B.returns, hml, hown, fun w hw => hts w (List.mem_cons_of_mem _ hw), B.notSynchronized, rfl, hO⟩ hl
theorem sg_blind (σ τ : Nat) (as : List Value) : FrameBlind (sg_P σ τ as) := by
  intro a U g mk h
  exact ⟨h.1, am_O.moved (State.WarmedH.refl U).alike h.2⟩
section SGC
variable {p : Program} {l : Launch} {e : Env} {R : Room} {s : State} {m : MethodId} {args : Array Value} {below : List Frame} {meth : Method} {c : Code} {H : Heap} {locs : List Loc} {cells slots : Nat} {Q : State → Prop} {M M' : am_M} {d σ τ pc idx : Nat} {la : Array Slot} {as rest : List Value} {v : Int32}
/-- what a call of such a method needs of the caller -/
def sg_K (M : am_M) (d σ τ : Nat) (p : Program) (R : Room) (s : State) (m : MethodId) (args : Array Value) (c : Code) (H : Heap) (cells slots : Nat) (la : Array Slot) : Prop :=
  p.tables.exec = Jvm.exec ∧ c.code = M.2.1 ∧ c.maxLocals = M.2.2.1 ∧ s.vm.findClass M.1.cls = some m.cls ∧ (∀ w ∈ am_W, w.before args s = true) ∧ d + 1 ≤ R.frames ∧ 40 * d + 40 ≤ R.locals ∧ cells ≤ R.cells ∧ slots ≤ R.slots ∧ la.size = M.2.2.1 ∧ am_O σ τ (fun _ => False) s H
theorem sg_pre (hO : am_O σ τ (fun _ => False) s H) : PreS s H (sg_P σ τ as) as := by
  refine ⟨sg_blind σ τ as, fun U hU hW => ⟨rfl, ?_⟩⟩
  show am_O σ τ (fun _ => False) U U.heap
  rw [hU]
  exact hO.moved hW.alike
theorem sg_callS {Qc : Array Value → State → Outcome → State → Prop} (K : sg_K M d σ τ p R s m args c H cells slots la) (hM : Met l M'.1 (am_ws M') (sg_R d) (sg_P σ τ as) Qc 0 0 (fun _ => False)) (hMo : am_Mo M' as.length) (hl : Cond.methodLink M.1.cls idx M'.1 ∈ am_W) (hst : Cond.static M'.1 ∈ am_W) (hcat : (rest.map fun v => v.category).sum ≤ 8) (hd : decode M.2.1 pc = .ok (.invokestatic idx, 3)) (as' : List Value) (has : as' = as.reverse ++ rest)
    (kk : ∀ (v : Option Value) (st₀ t : State), st₀.heap = H → Qc as.toArray st₀ (.returned v) t → W p l e R s m args below meth c t.heap locs cells slots Q (F0 m (pc + 3) la (v.toList ++ rest))) : W p l e R s m args below meth c H locs cells slots Q (F0 m pc la as') := by
  subst has
  obtain ⟨hx, hb, hml, hown, hts, hfr, hlo, hc, hs, hsz, hO⟩ := K
  have hrun := W.runS (l := l) (e := e) (below := below) (R := R) (meth := meth) (locs := locs) (cells := cells) (slots := slots) (As := as) (rest := rest) (g := F0 m pc la (as.reverse ++ rest)) (nL := M.2.2.1) (Ts := am_W) ⟨hx, hb, hml, hown, hts⟩ hM (n := as.length) (bytes := M'.2.1) (maxL := M'.2.2.1) (ret := M'.2.2.2)
    ⟨⟨rfl, rfl, hfr, by show 8 + (M'.2.2.1 + 11) + 40 * d ≤ _; have := hMo.2.2.2.2.1; omega, am_Wbef hts hMo.ws, List.mem_cons_self, hts _ hMo.1, hts _ hMo.2.1, hMo.2.2.1, hMo.len, hts _ hl⟩, hts _ hst⟩ (sg_pre hO) rfl rfl hsz rfl (by show 2 * 0 + _ ≤ 8; omega) hd ⟨hc, hs⟩
  exact W.callX hrun (fun _ h => h.elim) kk
theorem sg_callV {Qc : Array Value → State → Outcome → State → Prop} (K : sg_K M d σ τ p R s m args c H cells slots la) (hM : Met l M'.1 (am_ws M') (sg_R d) (sg_P σ τ (.ref σ :: as)) Qc 0 0 (fun _ => False)) (hMo : am_Mo M' as.length) (hcls : M'.1.cls = "java/lang/String") (hl : Cond.methodLink M.1.cls idx M'.1 ∈ am_W) (hin : Cond.instanceMethod M'.1 ∈ am_W) (hse : Cond.selects M'.1.cls M'.1 M'.1 ∈ am_W) (hcat : (rest.map fun v => v.category).sum ≤ 8) (hd : decode M.2.1 pc = .ok (.invokevirtual idx, 3)) (as' : List Value) (has : as' = as.reverse ++ .ref σ :: rest)
    (kk : ∀ (v : Option Value) (st₀ t : State), st₀.heap = H → Qc (Value.ref σ :: as).toArray st₀ (.returned v) t → W p l e R s m args below meth c t.heap locs cells slots Q (F0 m (pc + 3) la (v.toList ++ rest))) : W p l e R s m args below meth c H locs cells slots Q (F0 m pc la as') := by
  subst has
  obtain ⟨hx, hb, hml, hown, hts, hfr, hlo, hc, hs, hsz, hO⟩ := K
  have hrec : ∃ cell : Cell, H[σ]? = some cell ∧ cell.vm.isStatics = false ∧ s.vm.findClass M'.1.cls = some cell.cls := by
    obtain ⟨cell, h1, h2, h3, -⟩ := (hO.1.1 0 (by decide)).1
    rw [hcls]
    exact ⟨cell, h1, h2, h3⟩
  have hpre := sg_pre (as := .ref σ :: as) hO
  have hrun := W.runV (l := l) (e := e) (below := below) (R := R) (meth := meth) (locs := locs) (cells := cells) (slots := slots) (C := M'.1.cls) (b := σ) (As := as) (rest := rest) (g := F0 m pc la (as.reverse ++ .ref σ :: rest)) (nL := M.2.2.1) (Ts := am_W) ⟨hx, hb, hml, hown, hts⟩ hM (n := as.length) (bytes := M'.2.1) (maxL := M'.2.2.1) (ret := M'.2.2.2)
    ⟨⟨rfl, rfl, hfr, by show 8 + (M'.2.2.1 + 11) + 40 * d ≤ _; have := hMo.2.2.2.2.1; omega, am_Wbef hts hMo.ws, List.mem_cons_self, hts _ hMo.1, hts _ hMo.2.1, hMo.2.2.1, hMo.len, hts _ hl⟩, hts _ hin, hts _ hse⟩ ⟨hpre.1, hrec, hpre.2⟩ rfl rfl hsz rfl (by show 2 * 0 + _ ≤ 8; omega) hd ⟨hc, hs⟩
  exact W.callX hrun (fun _ h => h.elim) kk
theorem sg_C.K {d' : Nat} (C : sg_C M d σ τ p (sg_R d) s m args meth c) (hd : d = d' + 1) (hl : lv_has la M.2.2.1 (lv_args 0 as)) : sg_K M d' σ τ p (sg_R d) s m args c s.heap 0 0 la := by
  obtain ⟨h1, h2, h3, h4, h5, h6, h7, h8, h9⟩ := C
  exact ⟨h1, h2, h4, h5, h6, by show d' + 1 ≤ d; omega, by show 40 * d' + 40 ≤ 40 * d; omega, Nat.le_refl 0, Nat.le_refl 0, hl.1, h9⟩
end SGC
theorem sg_coder (l : Launch) (σ τ : Nat) : Met l MJ0_coder_7d493.1 (am_ws MJ0_coder_7d493) (sg_R 0) (sg_P σ τ [.ref σ]) (QcRead 0) 0 0 (fun _ => False) := by
  refine sg_of (by decide +kernel) (Nat.le_of_ble_eq_true rfl) ?_
  intro p e s m below meth c la C hl
  obtain ⟨hx, hb, hr, hml, hown, hts, hlk, -, hO⟩ := C
  have hS : va_S (fun _ => False) s.heap s.heap [] := va_S.rf
  refine va_gets hx hb hO.2.1 hS hown (hts _ kF_java_lang_String_38) (fun _ h => h) dJ0_coder_7d493_0 ?_
  refine lv_if_eq (tgt := 13) hx hb dJ0_coder_7d493_3 (by decide) (fun z => absurd z (by decide)) (fun _ => ?_)
  refine lv_aload_n hx hb dJ0_coder_7d493_6 rfl (lv_at hl 0 rfl) ?_
  refine vk_getf hx hb (hO.1.1 0 (by decide)).2.1 hS hown (hts _ kF_java_lang_String_15) (fun _ h => h) dJ0_coder_7d493_7 ?_
  refine lv_goto (tgt := 14) hx hb dJ0_coder_7d493_10 (by decide) ?_
  exact W.zret hx hb hr rfl (fun t ht _ => ⟨rfl, ht⟩) (fun _ h => absurd h List.not_mem_nil) dJ0_coder_7d493_14 hlk
theorem sg_isLatin1 (l : Launch) (σ τ : Nat) : Met l MJ0_isLatin1_aae02.1 (am_ws MJ0_isLatin1_aae02) (sg_R 0) (sg_P σ τ [.ref σ]) (QcRead 1) 0 0 (fun _ => False) := by
  refine sg_of (by decide +kernel) (Nat.le_of_ble_eq_true rfl) ?_
  intro p e s m below meth c la C hl
  obtain ⟨hx, hb, hr, hml, hown, hts, hlk, -, hO⟩ := C
  have hS : va_S (fun _ => False) s.heap s.heap [] := va_S.rf
  refine va_gets hx hb hO.2.1 hS hown (hts _ kF_java_lang_String_38) (fun _ h => h) dJ0_isLatin1_aae02_0 ?_
  refine lv_if_eq (tgt := 17) hx hb dJ0_isLatin1_aae02_3 (by decide) (fun z => absurd z (by decide)) (fun _ => ?_)
  refine lv_aload_n hx hb dJ0_isLatin1_aae02_6 rfl (lv_at hl 0 rfl) ?_
  refine vk_getf hx hb (hO.1.1 0 (by decide)).2.1 hS hown (hts _ kF_java_lang_String_15) (fun _ h => h) dJ0_isLatin1_aae02_7 ?_
  refine lv_if_ne (tgt := 17) hx hb dJ0_isLatin1_aae02_10 (by decide) (fun z => absurd rfl z) (fun _ => ?_)
  refine lv_iconst (v := 1) hx hb dJ0_isLatin1_aae02_13 rfl ?_
  refine lv_goto (tgt := 18) hx hb dJ0_isLatin1_aae02_14 (by decide) ?_
  exact W.zret hx hb hr rfl (fun t ht _ => ⟨rfl, ht⟩) (fun _ h => absurd h List.not_mem_nil) dJ0_isLatin1_aae02_18 hlk
def am_slI : Int32 := Int32.ofNat am_sln
def am_sch (k : Nat) : Int32 := am_sby.getD k 0
theorem sg_length (l : Launch) (σ τ : Nat) : Met l MJ0_length_8abf5.1 (am_ws MJ0_length_8abf5) (sg_R 1) (sg_P σ τ [.ref σ]) (QcRead am_slI) 0 0 (fun _ => False) := by
  refine sg_of (by decide +kernel) (Nat.le_of_ble_eq_true rfl) ?_
  intro p e s m below meth c la C hl
  have K := C.K (d' := 0) rfl hl
  obtain ⟨hx, hb, hr, hml, hown, hts, hlk, -, hO⟩ := C
  have hS : va_S (fun _ => False) s.heap s.heap [] := va_S.rf
  refine lv_aload_n hx hb dJ0_length_8abf5_0 rfl (lv_at hl 0 rfl) ?_
  refine vk_getf hx hb (hO.1.1 0 (by decide)).2.2.1 hS hown (hts _ kF_java_lang_String_9) (fun _ h => h) dJ0_length_8abf5_1 ?_
  obtain ⟨cell, h1, h2, h3, h4, h5, h6, -⟩ := (hO.1.1 0 (by decide)).2.2.2
  refine W.alen hx hb h1 h2 (n := am_slI) h5 rfl rfl dJ0_length_8abf5_4 ?_
  refine lv_aload_n hx hb dJ0_length_8abf5_5 rfl (lv_at hl 0 rfl) ?_
  refine sg_callV (as := []) (rest := [.int am_slI]) K (sg_coder l σ τ) mo_J0_coder_7d493 rfl kM_java_lang_String_335 ki_J0_coder_7d493 kv_J0_coder_7d493 (Nat.le_of_ble_eq_true rfl) dJ0_length_8abf5_6 _ rfl (fun v st₀ t h0 hq => ?_)
  obtain ⟨hv, hh⟩ := hq
  cases hv
  rw [hh, h0]
  refine lv_ishr hx hb dJ0_length_8abf5_9 ?_
  have e : am_slI >>> ((0 : Int32) &&& 31) = am_slI := by decide +kernel
  rw [e]
  exact W.iret hx hb hr (fun t ht _ => ⟨rfl, ht⟩) (fun _ h => absurd h List.not_mem_nil) dJ0_length_8abf5_10 hlk
/-! Preconditions.checkIndex -/
abbrev MJP : am_M := (⟨"jdk/internal/util/Preconditions", "checkIndex", "(IILjava/util/function/BiFunction;)I"⟩, prog_22_method_11_code, 3, some .int)
theorem sg_pci (l : Launch) (σ τ : Nat) (i n : Int32) (f : Value) (hf : f.category = 1) (h1 : ¬ i < 0) (h2 : i < n) : Met l MJP.1 (am_ws MJP) (sg_R 0) (sg_P σ τ [.int i, .int n, f]) (QcRead i) 0 0 (fun _ => False) := by
  have hlen : (lg_sl [.int i, .int n, f]).length ≤ 3 := by cases f <;> first | (simp [Value.category] at hf; done) | exact Nat.le_of_ble_eq_true rfl
  refine sg_of (by decide +kernel) hlen ?_
  intro p e s m below meth c la C hl
  obtain ⟨hx, hb, hr, hml, hown, hts, hlk, -, hO⟩ := C
  have d0 : decode MJP.2.1 0 = .ok (.iload_n 0, 1) := by decide +kernel
  have d1 : decode MJP.2.1 1 = .ok (.ifCond .lt 8, 3) := by decide +kernel
  have d4 : decode MJP.2.1 4 = .ok (.iload_n 0, 1) := by decide +kernel
  have d5 : decode MJP.2.1 5 = .ok (.iload_n 1, 1) := by decide +kernel
  have d6 : decode MJP.2.1 6 = .ok (.if_icmp .lt 10, 3) := by decide +kernel
  have d16 : decode MJP.2.1 16 = .ok (.iload_n 0, 1) := by decide +kernel
  have d17 : decode MJP.2.1 17 = .ok (.ireturn, 1) := by decide +kernel
  refine lv_iload_n hx hb d0 rfl (lv_at hl 0 rfl) ?_
  refine lv_if_lt (tgt := 9) hx hb d1 (by decide) (fun z => absurd z h1) (fun _ => ?_)
  refine lv_iload_n hx hb d4 rfl (lv_at hl 0 rfl) ?_
  refine lv_iload_n hx hb d5 rfl (lv_at hl 1 rfl) ?_
  refine lv_icmp_lt (tgt := 16) hx hb d6 (by decide) (fun _ => ?_) (fun z => absurd h2 z)
  refine lv_iload_n hx hb d16 rfl (lv_at hl 0 rfl) ?_
  exact W.iret hx hb hr (fun t ht _ => ⟨rfl, ht⟩) (fun _ h => absurd h List.not_mem_nil) d17 hlk
theorem sg_gsq {p : Program} {l : Launch} {e : Env} {R : Room} {s : State} {m : MethodId} {args : Array Value} {below : List Frame} {meth : Method} {c : Code} {H : Heap} {locs : List Loc} {cells slots : Nat} {Q : State → Prop} {cc : ByteArray} {pc : Nat} {ls : Array Slot} {rest : List Value} {A : Nat → Prop} (hexec : p.tables.exec = Jvm.exec) (hb : c.code = cc) {C n d own ref : String} {index : Nat} (hZ : va_Zq C n d A s s.heap) (hS : va_S A s.heap H locs) (hown : s.vm.findClass own = some m.cls) (hlink : (Cond.fieldLink own index ref n d).before args s = true) (hsame : ∀ x, s.fieldFound? C n d = some x → s.fieldFound? ref n d = some x) (hdg : decode cc pc = .ok (.getstatic index, 3))
    (kk : ∀ v : Value, v.category = 1 → W p l e R s m args below meth c H locs cells slots Q (F0 m (pc + 3) ls (v :: rest))) : W p l e R s m args below meth c H locs cells slots Q (F0 m pc ls rest) := by
  rcases hZ with h | ⟨t, h⟩
  · exact va_gets hexec hb h hS hown hlink hsame hdg (kk _ rfl)
  · exact va_gets hexec hb h hS hown hlink hsame hdg (kk _ rfl)
theorem mo_JP : am_Mo MJP 3 := ⟨am_mem2 220 (by decide +kernel), am_mem0 17 (by decide +kernel), ⟨by decide +kernel, by decide +kernel⟩, by decide +kernel, by decide +kernel, by decide +kernel⟩
theorem ks_JP : Cond.static MJP.1 ∈ am_W := am_mem2 219 (by decide +kernel)
theorem sg_ci (l : Launch) (σ τ : Nat) (i n : Int32) (h1 : ¬ i < 0) (h2 : i < n) : Met l MJ0_checkIndex_df160.1 (am_ws MJ0_checkIndex_df160) (sg_R 1) (sg_P σ τ [.int i, .int n]) sg_N 0 0 (fun _ => False) := by
  refine sg_of (by decide +kernel) (Nat.le_of_ble_eq_true rfl) ?_
  intro p e s m below meth c la C hl
  have K := C.K (d' := 0) rfl hl
  obtain ⟨hx, hb, hr, hml, hown, hts, hlk, -, hO⟩ := C
  have hS : va_S (fun _ => False) s.heap s.heap [] := va_S.rf
  refine lv_iload_n hx hb dJ0_checkIndex_df160_0 rfl (lv_at hl 0 rfl) ?_
  refine lv_iload_n hx hb dJ0_checkIndex_df160_1 rfl (lv_at hl 1 rfl) ?_
  refine sg_gsq hx hb hO.2.2 hS hown (hts _ kF_java_lang_String_1053) (fun _ h => h) dJ0_checkIndex_df160_2 (fun f hf => ?_)
  refine sg_callS (as := [.int i, .int n, f]) (rest := []) K (sg_pci l σ τ i n f hf h1 h2) mo_JP kM_java_lang_String_1059 ks_JP (Nat.le_of_ble_eq_true rfl) dJ0_checkIndex_df160_5 _ rfl (fun v st₀ t h0 hq => ?_)
  obtain ⟨hv, hh⟩ := hq
  cases hv
  rw [hh, h0]
  refine lv_pop hx hb dJ0_checkIndex_df160_8 rfl ?_
  exact W.vret hx hb hr (fun t ht _ => ⟨rfl, ht⟩) (fun _ h => absurd h List.not_mem_nil) dJ0_checkIndex_df160_9 hlk
theorem sg_chok : ∀ k, k < am_sln → (((am_sby.getD k 0) &&& (255 : Int32)).toUInt32 % 65536).toInt32 = am_sch k ∧ narrow .char (.int (am_sch k)) = .int (am_sch k) := by decide +kernel
theorem sg_lchar (l : Launch) (σ τ : Nat) (i : Int32) (hi : vp_in i am_sln) : Met l MJ1_charAt_3b067.1 (am_ws MJ1_charAt_3b067) (sg_R 2) (sg_P σ τ [.ref τ, .int i]) (QcRead (am_sch i.toNatClampNeg)) 0 0 (fun _ => False) := by
  have hi0 : ¬ i < 0 := fun z => hi (Or.inl z)
  have hi1 : i.toNatClampNeg < am_sln := by
    rcases Nat.lt_or_ge i.toNatClampNeg am_sln with z | z
    · exact z
    · exact absurd (Or.inr z) hi
  have hi2 : i < am_slI := by
    rw [Int32.lt_iff_toInt_lt]
    have e : am_slI.toInt = (am_sln : Int) := by decide +kernel
    rw [e]
    have h8 : i.toNatClampNeg = i.toInt.toNat := rfl
    rw [h8] at hi1
    omega
  obtain ⟨hc1, hc2⟩ := sg_chok _ hi1
  refine sg_of (by decide +kernel) (Nat.le_of_ble_eq_true rfl) ?_
  intro p e s m below meth c la C hl
  have K := C.K (d' := 1) rfl hl
  obtain ⟨hx, hb, hr, hml, hown, hts, hlk, -, hO⟩ := C
  obtain ⟨cell, h1, h2, h3, h4, h5, h6, -⟩ := (hO.1.1 0 (by decide)).2.2.2
  have h4 : am_sln ≤ cell.slots.size := h4
  have h6 : ∀ j, j < am_sln → cell.slots[j]? = some (.int (am_sby.getD j 0)) := h6
  refine lv_iload_n hx hb dJ1_charAt_3b067_0 rfl (lv_at hl 1 rfl) ?_
  refine lv_aload_n hx hb dJ1_charAt_3b067_1 rfl (lv_at hl 0 rfl) ?_
  refine W.alen hx hb h1 h2 (n := am_slI) h5 rfl rfl dJ1_charAt_3b067_2 ?_
  refine sg_callS (as := [.int i, .int am_slI]) (rest := []) K (sg_ci l σ τ i am_slI hi0 hi2) mo_J0_checkIndex_df160 kM_java_lang_StringLatin1_9 ks_J0_checkIndex_df160 (Nat.le_of_ble_eq_true rfl) dJ1_charAt_3b067_3 _ rfl (fun v st₀ t h0 hq => ?_)
  obtain ⟨hv, hh⟩ := hq
  cases hv
  rw [hh, h0]
  refine lv_aload_n hx hb dJ1_charAt_3b067_6 rfl (lv_at hl 0 rfl) ?_
  refine lv_iload_n hx hb dJ1_charAt_3b067_7 rfl (lv_at hl 1 rfl) ?_
  refine W.bald hx hb h1 h2 h3 (fun z => by rcases z with z | z; exact hi0 z; omega) (h6 _ hi1) rfl rfl dJ1_charAt_3b067_8 ?_
  refine lv_sipush (v := 255) hx hb dJ1_charAt_3b067_9 rfl ?_
  refine lv_iand hx hb dJ1_charAt_3b067_12 ?_
  refine lv_i2c (v := am_sch i.toNatClampNeg) hx hb dJ1_charAt_3b067_13 hc1 ?_
  exact W.zret hx hb hr hc2 (fun t ht _ => ⟨rfl, ht⟩) (fun _ h => absurd h List.not_mem_nil) dJ1_charAt_3b067_14 hlk
theorem sg_charAt (l : Launch) (σ τ : Nat) (i : Int32) (hi : vp_in i am_sln) : Met l MJ0_charAt_5068e.1 (am_ws MJ0_charAt_5068e) (sg_R 3) (sg_P σ τ [.ref σ, .int i]) (QcRead (am_sch i.toNatClampNeg)) 0 0 (fun _ => False) := by
  have hi1 : i.toNatClampNeg < am_sln := by
    rcases Nat.lt_or_ge i.toNatClampNeg am_sln with z | z
    · exact z
    · exact absurd (Or.inr z) hi
  obtain ⟨hc1, hc2⟩ := sg_chok _ hi1
  refine sg_of (by decide +kernel) (Nat.le_of_ble_eq_true rfl) ?_
  intro p e s m below meth c la C hl
  have K := C.K (d' := 2) rfl hl
  obtain ⟨hx, hb, hr, hml, hown, hts, hlk, -, hO⟩ := C
  have K0 : sg_K MJ0_charAt_5068e 0 σ τ p (sg_R 3) s m [Value.ref σ, .int i].toArray c s.heap 0 0 la := ⟨K.1, K.2.1, K.2.2.1, K.2.2.2.1, K.2.2.2.2.1, by decide, by decide, K.2.2.2.2.2.2.2⟩
  have hS : va_S (fun _ => False) s.heap s.heap [] := va_S.rf
  refine lv_aload_n hx hb dJ0_charAt_5068e_0 rfl (lv_at hl 0 rfl) ?_
  refine sg_callV (as := []) (rest := []) K0 (sg_isLatin1 l σ τ) mo_J0_isLatin1_aae02 rfl kM_java_lang_String_492 ki_J0_isLatin1_aae02 kv_J0_isLatin1_aae02 (Nat.le_of_ble_eq_true rfl) dJ0_charAt_5068e_1 _ rfl (fun v st₀ t h0 hq => ?_)
  obtain ⟨hv, hh⟩ := hq
  cases hv
  rw [hh, h0]
  refine lv_if_eq (tgt := 16) hx hb dJ0_charAt_5068e_4 (by decide) (fun z => absurd z (by decide)) (fun _ => ?_)
  refine lv_aload_n hx hb dJ0_charAt_5068e_7 rfl (lv_at hl 0 rfl) ?_
  refine vk_getf hx hb (hO.1.1 0 (by decide)).2.2.1 hS hown (hts _ kF_java_lang_String_9) (fun _ h => h) dJ0_charAt_5068e_8 ?_
  refine lv_iload_n hx hb dJ0_charAt_5068e_11 rfl (lv_at hl 1 rfl) ?_
  refine sg_callS (as := [.ref τ, .int i]) (rest := []) K (sg_lchar l σ τ i hi) mo_J1_charAt_3b067 kM_java_lang_String_495 ks_J1_charAt_3b067 (Nat.le_of_ble_eq_true rfl) dJ0_charAt_5068e_12 _ rfl (fun v st₀ t h0 hq => ?_)
  obtain ⟨hv, hh⟩ := hq
  cases hv
  rw [hh, h0]
  exact W.zret hx hb hr hc2 (fun t ht _ => ⟨rfl, ht⟩) (fun _ h => absurd h List.not_mem_nil) dJ0_charAt_5068e_15 hlk
section AMY
variable {Z : am_Z} {M : am_M} {d pc : Nat} {ls : List (Nat × Value)} {rest : List Value} {g : am_G} {r : Option Value × am_G} {a len idx : Nat}
theorem ev_ldcs (hd : decode M.2.1 pc = .ok (.ldc idx, 2)) (hc : M.1.cls = "WordSlides$Reader") (hi : idx = am_sk) (kk : am_Ev Z M d (pc + 2) ls (.retAddr 0 :: rest) g r) : am_Ev Z M d pc ls rest g r := by
  subst hi
  refine ⟨kk.1, ?_⟩
  intro p l e R s m args below meth c σ τ D dA A α0 n0 s0 C α H locs la V hst
  refine va_ldcS C.1 C.2.1 (own := "WordSlides$Reader") (by rw [← hc]; exact C.2.2.2.2.1) C.2.2.2.2.2.2.2.2.2.2.2.2.2.1.2.2.2.2.2 hd ?_
  exact kk.2 p l e R s m args below meth c σ τ D dA A α0 n0 s0 C α H locs la V ⟨trivial, hst⟩
theorem sg_K.of {p : Program} {R : Room} {s : State} {m : MethodId} {args : Array Value} {meth : Method} {c : Code} {σ τ : Nat} {D : va_G} {dA : Nat → ClassId} {A : Nat → Prop} {α0 : Nat → Nat} {n0 s0 k : Nat} {α : Nat → Nat} {H : Heap} {locs : List Loc} {la : Array Slot} (C : am_C M d σ τ D dA A n0 s0 r p R s m args meth c) (V : am_V Z M σ D dA A α0 n0 s0 s ls g α H locs la) (hm : am_n g ≤ am_n r.2 ∧ am_s g ≤ am_s r.2) (hk : k ≤ d) : sg_K M k σ τ p R s m args c H (am_n g - n0) (am_s g - s0) la := by
  obtain ⟨hx, hb, hrt, hml, hown, hts, hlk, hnm, hA, hfr, hlo, hcl, hsl, hX, hO⟩ := C
  obtain ⟨w1, w2, w3, w4, w5, hP, hD, hSS, hl9⟩ := V
  refine ⟨hx, hb, hml, hown, hts, by omega, by omega, by rw [hcl]; omega, by rw [hsl]; omega, hl9.1, ?_⟩
  exact (hO.kept hSS.2.1).narrow (fun _ h => h.elim)
theorem ev_slen (hk : 1 ≤ d) (hd : decode M.2.1 pc = .ok (.invokevirtual idx, 3)) (hl : Cond.methodLink M.1.cls idx MJ0_length_8abf5.1 ∈ am_W) (hcat : (rest.map fun v => v.category).sum ≤ 8) (kk : am_Ev Z M d (pc + 3) ls (.int am_slI :: rest) g r) : am_Ev Z M d pc ls (.retAddr 0 :: rest) g r := by
  refine ⟨kk.1, ?_⟩
  intro p l e R s m args below meth c σ τ D dA A α0 n0 s0 C α H locs la V hst
  refine sg_callV (as := []) (rest := rest.map (am_cv σ α)) (sg_K.of C V kk.1 hk) (sg_length l σ τ) mo_J0_length_8abf5 rfl hl ki_J0_length_8abf5 kv_J0_length_8abf5 (by rw [am_cats]; exact hcat) hd _ rfl (fun v st₀ t h0 hq => ?_)
  obtain ⟨hv, hh⟩ := hq
  cases hv
  rw [hh, h0]
  exact kk.2 p l e R s m args below meth c σ τ D dA A α0 n0 s0 C α H locs la V ⟨trivial, hst.2⟩
theorem ev_schr {i : Int32} (hk : 3 ≤ d) (hd : decode M.2.1 pc = .ok (.invokevirtual idx, 3)) (hl : Cond.methodLink M.1.cls idx MJ0_charAt_5068e.1 ∈ am_W) (hin : vp_in i am_sln) (hcat : (rest.map fun v => v.category).sum ≤ 8) (kk : am_Ev Z M d (pc + 3) ls (.int (am_sch i.toNatClampNeg) :: rest) g r) : am_Ev Z M d pc ls (.int i :: .retAddr 0 :: rest) g r := by
  refine ⟨kk.1, ?_⟩
  intro p l e R s m args below meth c σ τ D dA A α0 n0 s0 C α H locs la V hst
  refine sg_callV (as := [.int i]) (rest := rest.map (am_cv σ α)) (sg_K.of C V kk.1 hk) (sg_charAt l σ τ i hin) mo_J0_charAt_5068e rfl hl ki_J0_charAt_5068e kv_J0_charAt_5068e (by rw [am_cats]; exact hcat) hd _ rfl (fun v st₀ t h0 hq => ?_)
  obtain ⟨hv, hh⟩ := hq
  cases hv
  rw [hh, h0]
  exact kk.2 p l e R s m args below meth c σ τ D dA A α0 n0 s0 C α H locs la V ⟨trivial, hst.2.2⟩
end AMY

/-! ===== the beginning: what the tables give, the two objects ===== -/
def am_g0 : am_G := (fun _ _ => 0, fun _ _ => 0, fun _ _ => none, fun _ => (0, 0), 0, 0)
def am_Z0 : am_Z := (fun _ => none, fun _ _ => none)
theorem am_Z0_fresh (g : am_G) (_ : am_ok am_Z0 g) : ∀ k, am_Z0.2 (am_n g) k = none := fun _ => rfl
theorem am_Z0_free : ∀ a k : Nat, 0 ≤ a → am_Z0.2 a k = none := fun _ _ _ => rfl
def am_gc : am_G := ((fX11_init 0 0 (am_new am_g0 11 17)).getD ((), am_g0)).2
def am_gr : am_G := ((fX12_init 0 0 (am_new am_g0 12 64)).getD ((), am_g0)).2
theorem am_gc_is : (fX11_init 0 0 (am_new am_g0 11 17)).isSome = true := by decide +kernel
theorem am_gr_is : (fX12_init 0 0 (am_new am_g0 12 64)).isSome = true := by decide +kernel
theorem am_isget {o : Option (Unit × am_G)} (h : o.isSome = true) (d : Unit × am_G) : o = some ((), (o.getD d).2) := by
  cases o with
  | none => cases h
  | some q => rfl
theorem am_gc_eq : fX11_init 0 0 (am_new am_g0 11 17) = some ((), am_gc) := am_isget am_gc_is _
theorem am_gr_eq : fX12_init 0 0 (am_new am_g0 12 64) = some ((), am_gr) := am_isget am_gr_is _
theorem am_gc_n : am_n am_gc = 79 := by decide +kernel
theorem am_gr_n : am_n am_gr = 35 := by decide +kernel
theorem am_gc_S : ∀ a, a < 79 → zc.1 a = some (am_S am_gc a) := by decide +kernel
theorem am_gr_S : ∀ a, a < 35 → zr.1 a = some (am_S am_gr a) := by decide +kernel
theorem am_gc_P : ∀ a, a < 79 → ∀ k, k < 20 → zc.2 a k = none ∨ zc.2 a k = am_P am_gc a k := by decide +kernel
theorem am_gr_P : ∀ a, a < 35 → ∀ k, k < 64 → zr.2 a k = none ∨ zr.2 a k = am_P am_gr a k := by decide +kernel
theorem am_ok0 : am_ok am_Z0 am_g0 := ⟨fun i hi => absurd hi (Nat.not_lt_zero i), fun a q h => (by cases h), fun a k b h => (by cases h)⟩
theorem zc_P_lt {a k b : Nat} (h : zc.2 a k = some b) : a < 79 ∧ k < 20 := by
  have hl : ∀ a, a < 79 → ((zc_l[a]?).map fun q => decide (q.2.length ≤ 20)) = some true := by decide +kernel
  have ha : a < 79 := by
    rcases Nat.lt_or_ge a 79 with z | z
    · exact z
    · rw [zc_free a k z] at h; cases h
  refine ⟨ha, ?_⟩
  have h1 := hl a ha
  have h : (zc_l[a]?).bind (fun q => (q.2[k]?).join) = some b := h
  cases hq : zc_l[a]? with
  | none => rw [hq] at h; cases h
  | some q =>
    rw [hq] at h h1
    have h1 : q.2.length ≤ 20 := by simpa using h1
    have h : (q.2[k]?).join = some b := h
    cases hk : q.2[k]? with
    | none => rw [hk] at h; cases h
    | some x => exact Nat.lt_of_lt_of_le (List.getElem?_eq_some_iff.mp hk).1 h1
theorem zr_P_lt {a k b : Nat} (h : zr.2 a k = some b) : a < 35 ∧ k < 64 := by
  have hl : ∀ a, a < 35 → ((zr_l[a]?).map fun q => decide (q.2.length ≤ 64)) = some true := by decide +kernel
  have ha : a < 35 := by
    rcases Nat.lt_or_ge a 35 with z | z
    · exact z
    · rw [zr_free a k z] at h; cases h
  refine ⟨ha, ?_⟩
  have h1 := hl a ha
  have h : (zr_l[a]?).bind (fun q => (q.2[k]?).join) = some b := h
  cases hq : zr_l[a]? with
  | none => rw [hq] at h; cases h
  | some q =>
    rw [hq] at h h1
    have h1 : q.2.length ≤ 64 := by simpa using h1
    have h : (q.2[k]?).join = some b := h
    cases hk : q.2[k]? with
    | none => rw [hk] at h; cases h
    | some x => exact Nat.lt_of_lt_of_le (List.getElem?_eq_some_iff.mp hk).1 h1
theorem am_gc_ok (h : am_ok am_Z0 am_gc) : am_ok zc am_gc := by
  refine ⟨h.1, fun a q hq => ?_, fun a k b hb => ?_⟩
  · have ha : a < 79 := by
      rcases Nat.lt_or_ge a 79 with z | z
      · exact z
      · have : zc.1 a = none := by show (zc_l[a]?).map _ = none; rw [List.getElem?_eq_none (by simpa [zc_l] using z)]; rfl
        rw [this] at hq; cases hq
    rw [am_gc_S a ha] at hq
    exact ⟨by rw [am_gc_n]; exact ha, Option.some.inj hq⟩
  · obtain ⟨ha, hk⟩ := zc_P_lt hb
    rcases am_gc_P a ha k hk with z | z
    · rw [z] at hb; cases hb
    · rw [← z]; exact hb
theorem am_gr_ok (h : am_ok am_Z0 am_gr) : am_ok zr am_gr := by
  refine ⟨h.1, fun a q hq => ?_, fun a k b hb => ?_⟩
  · have ha : a < 35 := by
      rcases Nat.lt_or_ge a 35 with z | z
      · exact z
      · have : zr.1 a = none := by show (zr_l[a]?).map _ = none; rw [List.getElem?_eq_none (by simpa [zr_l] using z)]; rfl
        rw [this] at hq; cases hq
    rw [am_gr_S a ha] at hq
    exact ⟨by rw [am_gr_n]; exact ha, Option.some.inj hq⟩
  · obtain ⟨ha, hk⟩ := zr_P_lt hb
    rcases am_gr_P a ha k hk with z | z
    · rw [z] at hb; cases hb
    · rw [← z]; exact hb
theorem lw_arrP {s : State} {args : Array Value} {ty : FieldType} (h : (Cond.arrayClass ty).before args s = true) (hp : ∀ C, ty ≠ .object C) : ∃ cA : ClassId, ArrOfT s cA ty ∧ va_RA s cA ty := by
  obtain ⟨cA, kA, comp, hfind, hk, hkind⟩ := Cond.arrayClass_spec h
  refine ⟨cA, fun N z => ⟨(fun k h => by cases h), kA, hk, comp, hkind⟩, ?_⟩
  cases ty with
  | object C => exact absurd rfl (hp C)
  | _ => exact hfind
theorem lw_arrR {s : State} {args : Array Value} {C : String} (h : (Cond.arrayOver (.object C)).before args s = true) : ∃ cA : ClassId, ArrOfT s cA (.object C) ∧ va_RA s cA (.object C) := by
  obtain ⟨comp, cA, kA, hc, -, hk, hkind, hf⟩ := Cond.arrayOver_spec h
  exact ⟨cA, fun N z => ⟨(fun k h => by cases h), kA, hk, comp, hkind⟩, kA, comp, hk, hkind, hc, hf⟩
theorem lw_el : ∀ j, j < am_sln → Cond.eq (.elem (.field (.string "WordSlides$Reader" am_sk) "java/lang/String" "value" "[B") (.int (Int32.ofNat j))) (.int (am_sby.getD j 0)) ∈ flatC (Jvm.Cond.and given_1 narrow_1) := by decide +kernel
theorem lw_static {s : State} {b : Nat} (hts : ∀ w ∈ lw_tbl, w.before #[Value.ref b] s = true) (hgv : (Jvm.Cond.and given_1 narrow_1).before #[Value.ref b] s = true) : ∃ (σ τ : Nat) (D : va_G) (dA : Nat → ClassId), am_X σ τ D dA s ∧ am_O σ τ (fun q => s.heap.size ≤ q) s s.heap := by
  have hs := flat_of_before _ hgv
  have hA : ∀ a : Nat, a < s.heap.size → ¬ (fun q => s.heap.size ≤ q) a := fun a h => Nat.not_le.mpr h
  have hcls : ∀ ci : Nat, ∃ q : ClassId × (Nat → Nat), ci < 13 → u_Kn s (am_R ci) (am_T ci) (am_N ci) q.1 q.2 := by
    intro ci
    by_cases h : ci < 13
    · obtain ⟨cC, iS, hk⟩ := u_known (C := am_R ci) (T := am_T ci) (N := am_N ci) (n := am_N ci) hts (fun w hw => am_W_in (am_win ci h w hw)) (hts _ (am_inst ci h).1)
      exact ⟨(cC, iS), fun _ => hk⟩
    · exact ⟨(0, fun _ => 0), fun z => absurd z h⟩
  obtain ⟨dq, hdq⟩ := Classical.axiomOfChoice hcls
  obtain ⟨c20, h20⟩ := lw_arrP (hts _ (am_W_in kA_int)) (fun C h => by cases h)
  obtain ⟨c21, h21⟩ := lw_arrP (hts _ (am_W_in kA_byte)) (fun C h => by cases h)
  obtain ⟨c22, h22⟩ := lw_arrP (hts _ (am_W_in kA_boolean)) (fun C h => by cases h)
  obtain ⟨c23, h23⟩ := lw_arrP (hts _ (am_W_in kA_long)) (fun C h => by cases h)
  have o24 : (Cond.arrayOver (.object (am_R 2))).before #[Value.ref b] s = true := hts _ (am_chunk0 (List.mem_of_getElem? (i := 239) (by decide +kernel)))
  have o25 : (Cond.arrayOver (.object (am_R 9))).before #[Value.ref b] s = true := hts _ (am_chunk0 (List.mem_of_getElem? (i := 231) (by decide +kernel)))
  have o26 : (Cond.arrayOver (.object (am_R 6))).before #[Value.ref b] s = true := hts _ (am_chunk0 (List.mem_of_getElem? (i := 125) (by decide +kernel)))
  obtain ⟨c24, h24⟩ := lw_arrR o24
  obtain ⟨c25, h25⟩ := lw_arrR o25
  obtain ⟨c26, h26⟩ := lw_arrR o26
  obtain ⟨adK, adV, hV, hK⟩ := vk_Sof (s := s) (args := #[Value.ref b]) (N := 1) (tm := fun _ => .string "WordSlides$Reader" am_sk) (len := [am_sln]) (byt := [am_sby]) (A := fun q => s.heap.size ≤ q) (fun i hi => by rcases (show i = 0 by omega) with rfl; decide +kernel) (fun i hi => hs _ (by decide +kernel)) (fun i hi => hs _ (by decide +kernel)) (fun i hi => hs _ (by decide +kernel)) (fun i hi => by rcases (show i = 0 by omega) with rfl; exact hs _ (by decide +kernel)) (fun i hi j hj => by rcases (show i = 0 by omega) with rfl; exact hs _ (lw_el j hj)) (fun i j hi hj hne => absurd (show i = j by omega) hne) hA
  have eK : ∀ f : Nat → Nat, vk_S 1 [am_sln] [am_sby] adK adV (fun q => s.heap.size ≤ q) s s.heap → vk_S 1 [am_sln] [am_sby] (fun _ => adK 0) (fun _ => adV 0) (fun q => s.heap.size ≤ q) s s.heap := by
    intro _ h
    refine ⟨fun i hi => ?_, fun i j hi hj _ => by omega⟩
    rcases (show i = 0 by omega) with rfl
    exact h.1 0 hi
  refine ⟨adK 0, adV 0, (fun k => (dq k).1, fun k => (dq k).2), fun kd => if kd = 20 then c20 else if kd = 21 then c21 else if kd = 22 then c22 else if kd = 23 then c23 else if kd = 24 then c24 else if kd = 25 then c25 else c26, ⟨⟨fun ci q hq => ?_, fun k q hk => ?_⟩, fun w hw => ?_, va_AO.of o24, va_AO.of o25, va_AO.of o26, vk_R.of (hts _ (am_chunk2 (List.mem_of_getElem? (i := 191) (by decide +kernel)))) (hK 0 (by decide))⟩, eK adK hV, va_Zof (hts _ (am_chunk2 (List.mem_of_getElem? (i := 201) (by decide +kernel)))) (hts _ (am_chunk0 (List.mem_of_getElem? (i := 15) (by decide +kernel)))) (va_eqi (hs _ (by decide +kernel))) hA, va_Zqof (hts _ (am_chunk2 (List.mem_of_getElem? (i := 217) (by decide +kernel)))) (hts _ (am_chunk0 (List.mem_of_getElem? (i := 17) (by decide +kernel)))) (hs _ (by decide +kernel)) hA⟩
  · have hci : ci < 13 := by
      have := (List.getElem?_eq_some_iff.mp hq).1
      simpa [am_cl] using this
    rw [am_cl_at hci] at hq
    cases hq
    exact hdq ci hci
  · match k, hk with
    | 0, hk => cases hk; exact h20
    | 1, hk => cases hk; exact h21
    | 2, hk => cases hk; exact h22
    | 3, hk => cases hk; exact h23
    | 4, hk => cases hk; exact h24
    | 5, hk => cases hk; exact h25
    | 6, hk => cases hk; exact h26
    | k + 7, hk => simp [am_tys] at hk
  · have h1 := hts w (List.mem_filter.mp hw).1
    have h2 := (List.mem_filter.mp hw).2
    match w, h1, h2 with
    | .methodLinkNest a b c d, h1, _ => exact va_Nw.of rfl h1
    | .castable a b, h1, _ => exact va_Nw.of rfl h1
theorem lw_callI {p : Program} {l : Launch} {e : Env} {s : State} {m : MethodId} {args : Array Value} {below : List Frame} {meth : Method} {c : Code} {H : Heap} {locs : List Loc} {cells slots : Nat} {Q : State → Prop} {la : Array Slot} {lv : List (Nat × Value)} {σ τ : Nat} {D : va_G} {dA : Nat → ClassId} {Z : am_Z} {M' : am_M} {d' idx pc : Nat} {rest : List Value} {g g1 : am_G} {α : Nat → Nat} {w2 : va_W}
    (hts : ∀ w ∈ am_W, w.before args s = true) (hx : p.tables.exec = Jvm.exec) (hb : c.code = code) (hml : c.maxLocals = 4) (hown : s.vm.findClass R_law = some m.cls) (hX : am_X σ τ D dA s) (hO : am_O σ τ (fun q => s.heap.size ≤ q) s s.heap) (hmt : am_Mt Z M' d' [.ref 0] g (none, g1)) (hok : am_ok Z g) (hP : va_P D am_cl (am_wl dA σ α g ++ w2) H) (hD : va_D (fun q => s.heap.size ≤ q) (am_wl dA σ α g ++ w2)) (hS : va_S (fun q => s.heap.size ≤ q) s.heap H locs) (hl : lv_has la 4 lv) (hM : am_Mo M' 0) (hlk : Cond.methodLink R_law idx M'.1 ∈ am_W) (hin : Cond.instanceMethod M'.1 ∈ am_W) (hi : M'.1.name = "<init>" ∧ M'.2.2.2 = none) (h0 : 0 < am_n g) (hcat : (rest.map fun v => v.category).sum ≤ 8) (hd' : d' ≤ 1000) (hc1 : cells + (am_n g1 - am_n g) ≤ 600000) (hc2 : slots + (am_s g1 - am_s g) ≤ 7302250) (hdg : decode code pc = .ok (.invokespecial idx, 3)) (st : List Value) (hst : st = .ref (α 0) :: rest)
    (kk : ∀ (α1 : Nat → Nat) (H1 : Heap) (locs1 : List Loc), am_ok Z g1 → va_P D am_cl (am_wl dA σ α1 g1 ++ w2) H1 → va_D (fun q => s.heap.size ≤ q) (am_wl dA σ α1 g1 ++ w2) → va_S (fun q => s.heap.size ≤ q) s.heap H1 locs1 → α1 0 = α 0 → W p l e room_1 s m args below meth c H1 locs1 (cells + (am_n g1 - am_n g)) (slots + (am_s g1 - am_s g)) Q (F0 m (pc + 3) la rest)) : W p l e room_1 s m args below meth c H locs cells slots Q (F0 m pc la st) := by
  subst hst
  have hP0 : va_P D am_cl (am_wl dA σ α g) H := fun k q hq => hP k q (by rw [List.getElem?_append_left (List.getElem?_eq_some_iff.mp hq).1]; exact hq)
  have hD0 : va_D (fun q => s.heap.size ≤ q) (am_wl dA σ α g) := by
    have up : ∀ (k : Nat) (q : Nat × va_E), (am_wl dA σ α g)[k]? = some q → (am_wl dA σ α g ++ w2)[k]? = some q := fun k q hq => by rw [List.getElem?_append_left (List.getElem?_eq_some_iff.mp hq).1]; exact hq
    exact ⟨fun i j x y hx hy hxy => hD.1 i j x y (up i x hx) (up j y hy) hxy, fun k q hq => hD.2 k q (up k q hq)⟩
  have hA : ∀ q, s.heap.size ≤ q → (fun q => s.heap.size ≤ q) q := fun _ h => h
  have hpre := am_pre (g := g) (σ := σ) (τ := τ) (as := [.ref 0]) hok ⟨h0, trivial⟩ hP0 hD0 hS hA hX hO
  have hfree := am_Afree (g := g) hD0 hS hA
  have hMt := hmt.2 l σ τ D dA α H.size
  have hcode := hM.1
  rw [hi.2] at hcode
  have hcm : Cond.code M'.1 M'.2.1 M'.2.2.1 none ∈ am_ws M' := by unfold am_ws; rw [hi.2]; exact List.mem_cons_self
  have hrun := va_runI (l := l) (e := e) (below := below) (R := room_1) (meth := meth) (locs := locs) (cells := cells) (slots := slots) (b := α 0) (As := []) (rest := rest) (g := F0 m pc la (.ref (α 0) :: rest)) (nL := 4) (Ts := am_W) ⟨hx, hb, hml, hown, hts⟩ hMt (n := 0) (bytes := M'.2.1) (maxL := M'.2.2.1)
    ⟨⟨rfl, rfl, by show d' + 1 + 1 ≤ 2048; omega, by show 8 + (M'.2.2.1 + 11) + (40 * d' + 40) ≤ 84000; have := hM.2.2.2.2.1; omega, am_Wbef hts hM.ws, hcm, hts _ hcode, hts _ hM.2.1, hM.2.2.1, hM.len, hts _ hlk⟩, hi.1, hts _ hin⟩
    hpre rfl rfl hl.1 rfl (by show 2 * 0 + _ ≤ 8; omega) hdg ⟨hc1, hc2⟩
  refine am_goOn (Z := Z) hrun hS hfree fun α1 H1 locs1 hα hok1 hso hP1 hD1 hk hz hS1 => ?_
  obtain ⟨hP2, hD2⟩ := lw_join hP hD hk hfree hP1 hD1
  exact kk α1 H1 locs1 hok1 hP2 hD2 hS1 (hα 0 h0)
theorem lw_newE {dA : Nat → ClassId} {σ q ci : Nat} (hci : ci < 13) : [(q, Sum.inr (ci, (List.range (am_N ci)).map fun k => defaultValue (am_ty ci k)))] = am_wl dA σ (fun _ => q) (am_new am_g0 ci (am_N ci)) := by
  have hw := am_wl_new (dA := dA) (σ := σ) (α := fun _ => q) (g := am_g0) (kd := ci) (len := am_N ci) (q := q) am_ok0 (e := .inr (ci, (List.range (am_N ci)).map fun k => defaultValue (am_ty ci k))) (by
    have hSn : am_S (am_new am_g0 ci (am_N ci)) (am_n am_g0) = (ci, am_N ci) := am_up_eq (f := am_S am_g0) (k := am_n am_g0) (x := (ci, am_N ci))
    rw [am_E_obj hSn hci]
    congr 2
    exact List.map_congr_left fun k hk => am_av_new (am_fdok ci hci k (List.mem_range.mp hk)) k)
  have e1 : am_up (fun _ : Nat => q) (am_n am_g0) q = fun _ => q := by
    funext j
    unfold am_up
    split <;> rfl
  rw [e1] at hw
  exact hw
set_option maxRecDepth 100000 in
set_option maxHeartbeats 4000000 in
/-- THE LAW, from its entry: open in what is to be shown of the two programs -/
theorem whole_open {Rel : Nat → am_G → am_G → Prop} (hN : lw_N Rel) (hH : lw_H Rel) (hR0 : Rel 0 am_gc am_gr) {p : Program} {e : Env} {s : State} {m : MethodId} {below : List Frame} {meth : Method} {c : Code} (l : Launch) {b L : Nat} {xs : Nat → Int32} (hL : L ≤ 3072) (C0 : lw_At p s m meth c b L xs) : W p l e room_1 s m #[Value.ref b] below meth c s.heap [] 0 0 (lw_Z below #[Value.ref b] s) (entryFrame m ([Value.ref b] : List Value).toArray 4) := by
  obtain ⟨hx, hb, hr, hml, hown, hts, hX, hbl, hlocks, hgv⟩ := id C0
  have htsW : ∀ w ∈ am_W, w.before #[Value.ref b] s = true := fun w hw => hts w (am_W_in hw)
  obtain ⟨σ, τ, D, dA, hXX, hOO⟩ := lw_static hts hgv
  have hA : ∀ q : Nat, s.heap.size ≤ q → (fun q : Nat => s.heap.size ≤ q) q := fun _ h => h
  have hb0 := hN.1 0 am_gc am_gr (by decide) hR0
  rw [am_gc_n, am_gr_n] at hb0
  have hS : va_S (fun q : Nat => s.heap.size ≤ q) s.heap s.heap [] := va_S.rf
  have hP : va_P D am_cl [] s.heap := fun k q h => by simp at h
  have hD : va_D (fun q : Nat => s.heap.size ≤ q) [] := ⟨fun i j p q h => by simp at h, fun k q h => by simp at h⟩
  have hl := lv_entry ([.ref b]) (n := 4) (Nat.le_of_ble_eq_true rfl)
  rw [lg_entry_eq]
  generalize (lg_sl ([.ref b]) ++ List.replicate (4 - (lg_sl ([.ref b])).length) Slot.unset).toArray = la at hl ⊢
  have hl : lv_has la 4 [(0, .ref b)] := hl
  have mtc : am_Mt am_Z0 MX11_init 2 [.ref 0] (am_new am_g0 11 17) (none, am_gc) := tX11_init am_Z0_fresh am_Z0_free am_gc_eq
  have mtr : am_Mt am_Z0 MX12_init 1 [.ref 0] (am_new am_g0 12 64) (none, am_gr) := tX12_init am_Z0_fresh am_Z0_free am_gr_eq
  have n1 : am_n (am_new am_g0 11 17) = 1 := rfl
  have n2 : am_n (am_new am_g0 12 64) = 1 := rfl
  have s1 : am_s (am_new am_g0 11 17) = 17 := rfl
  have s2 : am_s (am_new am_g0 12 64) = 64 := rfl
  have m1 : 1 ≤ am_n am_gc ∧ 17 ≤ am_s am_gc := mtc.1
  have m2 : 1 ≤ am_n am_gr ∧ 64 ≤ am_s am_gr := mtr.1
  have nc := am_gc_n
  have nr := am_gr_n
  refine va_new (ci := 11) (C := am_R 11) (T := am_T 11) (N := am_N 11) (index := 7) (Ts := am_W) (fs := (List.range (am_N 11)).map fun k => defaultValue (am_ty 11 k)) hx hb htsW (am_win 11 (by decide)) (am_ty 11) (am_tyok 11 (by decide)) hown (htsW _ kC_L_7) (htsW _ (List.mem_filter.mpr (am_inst 11 (by decide)))) (htsW _ (List.mem_filter.mpr (am_init 11 (by decide)))) hXX.1 hP hD hS hA (am_cl_at (by decide)) (fun j hj => by simp [vp_V, hj]) (by decide) (by decide) dL_0 (fun q0 H hP hD hS => ?_)
  rw [List.nil_append, lw_newE (dA := dA) (σ := σ) (by decide)] at hP hD
  refine lv_dup hx hb dL_3 rfl ?_
  refine lw_callI (Z := am_Z0) (α := fun _ => q0) (w2 := []) (rest := [.ref q0]) htsW hx hb hml hown hXX hOO mtc (am_ok_new am_ok0 (fun _ => rfl)) (by rw [List.append_nil]; exact hP) (by rw [List.append_nil]; exact hD) hS hl mo_X11_init kM_L_9 ki_X11_init ⟨rfl, rfl⟩ (by decide) (Nat.le_of_ble_eq_true rfl) (by decide) (by rw [n1]; omega) (by rw [s1]; show 0 + 17 + (am_s am_gc - 17) ≤ _; omega) dL_4 _ rfl (fun αc H locs okc hP hD hS ec => ?_)
  refine lv_astore_n (lv' := [(1, .ref q0), (0, .ref b)]) hx hb dL_7 rfl hl (by decide) rfl (fun la hl => ?_)
  rw [List.append_nil] at hP hD
  refine W.cs (cells' := 79) (slots' := am_s am_gc) (by show 0 + 1 + (am_n am_gc - 1) = 79; omega) (by show 0 + 17 + (am_s am_gc - 17) = _; omega) ?_
  refine va_new (ci := 12) (C := am_R 12) (T := am_T 12) (N := am_N 12) (index := 10) (Ts := am_W) (fs := (List.range (am_N 12)).map fun k => defaultValue (am_ty 12 k)) hx hb htsW (am_win 12 (by decide)) (am_ty 12) (am_tyok 12 (by decide)) hown (htsW _ kC_L_10) (htsW _ (List.mem_filter.mpr (am_inst 12 (by decide)))) (htsW _ (List.mem_filter.mpr (am_init 12 (by decide)))) hXX.1 hP hD hS hA (am_cl_at (by decide)) (fun j hj => by simp [vp_V, hj]) (by decide) (by show am_s am_gc + 64 ≤ 7302250; omega) dL_8 (fun q1 H hP hD hS => ?_)
  have hP := lw_swP hP
  have hD := lw_swD hD
  rw [lw_newE (dA := dA) (σ := σ) (by decide)] at hP hD
  refine lv_dup hx hb dL_11 rfl ?_
  refine lw_callI (Z := am_Z0) (α := fun _ => q1) (rest := [.ref q1]) htsW hx hb hml hown hXX hOO mtr (am_ok_new am_ok0 (fun _ => rfl)) hP hD hS hl mo_X12_init kM_L_12 ki_X12_init ⟨rfl, rfl⟩ (by decide) (Nat.le_of_ble_eq_true rfl) (by decide) (by rw [n2]; omega) (by rw [s2]; show am_s am_gc + 64 + (am_s am_gr - 64) ≤ _; omega) dL_12 _ rfl (fun αr H locs okr hP hD hS er => ?_)
  refine lv_astore_n (lv' := [(2, .ref q1), (1, .ref q0), (0, .ref b)]) hx hb dL_15 rfl hl (by decide) rfl (fun la hl => ?_)
  refine lv_iconst (v := 0) hx hb dL_16 rfl ?_
  refine lv_istore_n (lv' := [(3, .int 0), (2, .ref q1), (1, .ref q0), (0, .ref b)]) hx hb dL_17 rfl hl (by decide) rfl (fun la hl => ?_)
  refine W.cs (cells' := am_n am_gc + am_n am_gr) (slots' := am_s am_gc + am_s am_gr) (by show 79 + 1 + (am_n am_gr - 1) = _; omega) (by show am_s am_gc + 64 + (am_s am_gr - 64) = _; omega) ?_
  exact lw_loop hL C0 hXX hOO hN hH (L + 1) 0 (by omega) (by decide) am_gc am_gr αc αr H locs la hR0 ec er (am_gc_ok okc) (am_gr_ok okr) (lw_swP hP) (lw_swD hD) hS (lv_sub hl [3, 2, 1, 0] rfl)

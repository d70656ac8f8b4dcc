theorem am_Wbef {s : State} {args : Array Value} (h : ∀ w ∈ am_W, w.before args s = true) {ws : List Cond} (hw : ∀ w ∈ ws, w ∈ am_W) : ∀ w ∈ ws, ∀ (a' : Array Value) (U : State), s.WarmedH U.vm → w.before a' U = true :=
  pay_in h fun w hx => ⟨hw w hx, good_of_word (List.all_eq_true.mp am_W_good w (hw w hx))⟩
/-- what stands of a method that is called: its code among the words, no method handle, its parameters, few locals -/
def am_Mo (M : am_M) (n : Nat) : Prop := Cond.code M.1 M.2.1 M.2.2.1 M.2.2.2 ∈ am_W ∧ Cond.initialized M.1.cls ∈ am_W ∧ (M.1.cls ≠ "java/lang/invoke/MethodHandle" ∧ M.1.cls ≠ "java/lang/invoke/VarHandle") ∧ (parseMethodDescriptor M.1.desc).map (fun d => d.parameters.length) = some n ∧ M.2.2.1 ≤ 21 ∧ plainName M.1.cls = true
theorem am_Mo.ws {M : am_M} {n : Nat} (h : am_Mo M n) : ∀ w ∈ am_ws M, w ∈ am_W := by
  intro w hw
  rcases List.mem_cons.mp hw with rfl | hw
  · exact h.1
  · exact hw
theorem am_Mo.len {M : am_M} {n : Nat} (h : am_Mo M n) : ∀ sig, parseMethodDescriptor M.1.desc = some sig → n = sig.parameters.length := by
  intro sig hs
  have h2 := h.2.2.2.1
  rw [hs] at h2
  exact (Option.some.inj h2).symm
section AMC
variable {p : Program} {l : Launch} {e : Env} {R : Room} {s : State} {m : MethodId} {args : Array Value} {below : List Frame} {meth : Method} {c : Code} {H : Heap} {locs : List Loc} {cells slots mc ms : Nat} {Q : State → Prop} {pc : Nat} {la : Array Slot} {rest st0 : List Value} {a : Array Value} {A A1 : Nat → Prop} {σ : Nat} {D : va_G} {dA : Nat → ClassId} {α : Nat → Nat} {n1 : Nat} {Z : am_Z} {r1 : Option Value × am_G}
theorem am_goOn (hr : va_Run p l e R s m args below meth c H locs cells slots mc ms (F0 m pc la st0) rest (am_Q Z σ D dA A1 α n1 r1 a) A1) (hS : va_S A s.heap H locs) (hA : ∀ q, A1 q → A q)
    (kk : ∀ (α1 : Nat → Nat) (H1 : Heap) (locs1 : List Loc), (∀ i, i < n1 → α1 i = α i) → am_ok Z r1.2 → am_so (am_n r1.2) r1.1.toList → va_P D am_cl (am_wl dA σ α1 r1.2) H1 → va_D A1 (am_wl dA σ α1 r1.2) → (∀ q : Nat, q < H.size → ¬ A1 q → H1[q]? = H[q]?) → H.size ≤ H1.size → va_S A s.heap H1 locs1 → W p l e R s m args below meth c H1 locs1 (cells + mc) (slots + ms) Q (F0 m (pc + 3) la ((r1.1.map (am_cv σ α1)).toList ++ rest))) : W p l e R s m args below meth c H locs cells slots Q (F0 m pc la st0) := by
  intro T hT X
  obtain ⟨v, st₀, t, T', L, h0, X', hL, e1, e2, ⟨⟨α1, hv, hα, hok, hso, hP, hD⟩, hz, hk⟩, st⟩ := hr T hT X
  cases hv
  rw [h0] at hz hk
  obtain ⟨t2, a1, b1⟩ := kk α1 T'.heap (locs ++ L) hα hok hso (by rw [e1]; exact hP) hD (fun q h1 h2 => by rw [e1]; exact hk q h1 h2) (by rw [e1]; exact hz)
    ⟨Nat.le_trans hS.1 (by rw [e1]; exact hz), fun q h1 h2 => by rw [e1, hk q (Nat.lt_of_lt_of_le h1 hS.1) (fun z => h2 (hA q z))]; exact hS.2.1 q h1 h2, fun q hq => by
      rcases List.mem_append.mp hq with h | h
      · exact hS.2.2 q h
      · exact hA _ (hL q h)⟩ T' rfl X'
  exact ⟨t2, st t2 a1, b1⟩
end AMC
section AMK
variable {Z : am_Z} {M M' : am_M} {d d' pc : Nat} {ls : List (Nat × Value)} {rest as : List Value} {g g1 : am_G} {r : Option Value × am_G} {v1 : Option Value} {a idx : Nat}
/-- a callee's start, out of the caller's world -/
theorem am_pre {σ τ : Nat} {D : va_G} {dA : Nat → ClassId} {A : Nat → Prop} {α : Nat → Nat} {s : State} {H : Heap} {locs : List Loc} {as : List Value} (hok : am_ok Z g) (hso : am_so (am_n g) as) (hP : va_P D am_cl (am_wl dA σ α g) H) (hD : va_D A (am_wl dA σ α g)) (hS : va_S A s.heap H locs) (hA : ∀ q, s.heap.size ≤ q → A q) (hX : am_X σ τ D dA s) (hO : am_O σ τ A s s.heap) :
    PreS s H (va_Pc (as.map (am_cv σ α)) (fun U => U.heap.size = H.size ∧ am_ok Z g ∧ am_so (am_n g) as ∧ va_P D am_cl (am_wl dA σ α g) U.heap ∧ va_D (fun _ => True) (am_wl dA σ α g) ∧ am_X σ τ D dA U ∧ am_O σ τ (va_A (am_wl dA σ α g) H.size) U U.heap)) (as.map (am_cv σ α)) := by
  refine ⟨fun a U g' mk hq => ?_, fun U hU hW => ?_⟩
  · obtain ⟨h1, h2, h3, h4, h5, h6, h7, h8⟩ := hq
    refine ⟨h1, h2, h3, h4, h5, h6, am_X.same (s := U) (U := U.calling g' mk a) rfl h7, ?_⟩
    exact am_O.moved (State.WarmedH.refl U).alike h8
  · refine ⟨rfl, by rw [hU], hok, hso, by rw [hU]; exact hP, hD.weaken (fun _ _ _ _ => trivial), hX.warm hW, ?_⟩
    rw [hU]
    refine am_O.moved hW.alike ((hO.kept (H1 := H) hS.2.1).narrow fun q hq => ?_)
    rcases hq with ⟨k, e, hk⟩ | hq
    · exact hD.2 k (q, e) hk
    · exact hA q (Nat.le_trans hS.1 hq)
theorem am_Afree {dA : Nat → ClassId} {σ : Nat} {A : Nat → Prop} {α : Nat → Nat} {s : State} {H : Heap} {locs : List Loc} (hD : va_D A (am_wl dA σ α g)) (hS : va_S A s.heap H locs) (hA : ∀ q, s.heap.size ≤ q → A q) : ∀ q, va_A (am_wl dA σ α g) H.size q → A q := by
  intro q hq
  rcases hq with ⟨k, e, hk⟩ | hq
  · exact hD.2 k (q, e) hk
  · exact hA q (Nat.le_trans hS.1 hq)
/-- the state behind a call -/
theorem am_V.call {σ τ : Nat} {D : va_G} {dA : Nat → ClassId} {A A1 : Nat → Prop} {α0 α α1 : Nat → Nat} {n0 s0 : Nat} {s : State} {H H1 : Heap} {locs locs1 : List Loc} {la : Array Slot} (V : am_V Z M σ D dA A α0 n0 s0 s ls g α H locs la) (hn : am_n g ≤ am_n g1) (hs : am_s g ≤ am_s g1) (hα : ∀ i, i < am_n g → α1 i = α i) (hok : am_ok Z g1) (hP : va_P D am_cl (am_wl dA σ α1 g1) H1) (hD : va_D A1 (am_wl dA σ α1 g1)) (hA : ∀ q, A1 q → A q) (hS : va_S A s.heap H1 locs1) : am_V Z M σ D dA A α0 n0 s0 s ls g1 α1 H1 locs1 la := by
  obtain ⟨h1, h2, h3, h4, h5, -, -, -, h9⟩ := V
  refine ⟨fun i hi => (hα i (by omega)).trans (h1 i hi), by omega, by omega, hok, fun q hq => am_vo_le hn (h5 q hq), hP, hD.weaken (fun _ _ _ h => hA _ h), hS, ?_⟩
  rw [am_ls_ext hα h5]
  exact h9
theorem am_cats (σ : Nat) (α : Nat → Nat) (rest : List Value) : ((rest.map (am_cv σ α)).map fun v => v.category) = rest.map fun v => v.category := by
  rw [List.map_map]
  exact List.map_congr_left fun v _ => am_cat σ α v
theorem am_so_app {n : Nat} : ∀ {a b : List Value}, am_so n (a ++ b) ↔ am_so n a ∧ am_so n b
  | [], _ => ⟨fun h => ⟨trivial, h⟩, fun h => h.2⟩
  | v :: a, b => by
    show am_vo n v ∧ am_so n (a ++ b) ↔ (am_vo n v ∧ am_so n a) ∧ am_so n b
    rw [am_so_app]
    exact ⟨fun h => ⟨⟨h.1, h.2.1⟩, h.2.2⟩, fun h => ⟨h.1.1, h.1.2, h.2⟩⟩
theorem am_so_rev {n : Nat} : ∀ {a : List Value}, am_so n a.reverse ↔ am_so n a
  | [] => Iff.rfl
  | v :: a => by
    rw [List.reverse_cons, am_so_app, am_so_rev]
    exact ⟨fun h => ⟨h.2.1, h.1⟩, fun h => ⟨h.2, h.1, trivial⟩⟩
theorem am_after (kk : am_Ev Z M d (pc + 3) ls (v1.toList ++ rest) g1 r) {p : Program} {l : Launch} {e : Env} {R : Room} {s : State} {m : MethodId} {args : Array Value} {below : List Frame} {meth : Method} {c : Code} {σ τ : Nat} {D : va_G} {dA : Nat → ClassId} {A A1 : Nat → Prop} {α0 : Nat → Nat} {n0 s0 : Nat} (C : am_C M d σ τ D dA A n0 s0 r p R s m args meth c) {α : Nat → Nat} {H : Heap} {locs : List Loc} {la : Array Slot} (V : am_V Z M σ D dA A α0 n0 s0 s ls g α H locs la) (hrest : am_so (am_n g) rest) (hn : am_n g ≤ am_n g1) (hs : am_s g ≤ am_s g1) (hA : ∀ q, A1 q → A q) (α1 : Nat → Nat) (H1 : Heap) (locs1 : List Loc) (hα : ∀ i, i < am_n g → α1 i = α i) (hok : am_ok Z g1) (hso : am_so (am_n g1) v1.toList) (hP : va_P D am_cl (am_wl dA σ α1 g1) H1) (hD : va_D A1 (am_wl dA σ α1 g1)) (hS : va_S A s.heap H1 locs1) :
    W p l e R s m args below meth c H1 locs1 (am_n g - n0 + (am_n g1 - am_n g)) (am_s g - s0 + (am_s g1 - am_s g)) (MQ below (am_Q Z σ D dA A α0 n0 r) args s (am_n r.2 - n0) (am_s r.2 - s0) A) (F0 m (pc + 3) la ((v1.map (am_cv σ α1)).toList ++ rest.map (am_cv σ α))) := by
  have v1' : n0 ≤ am_n g := V.2.1
  have v2 : s0 ≤ am_s g := V.2.2.1
  have hk := kk.2 p l e R s m args below meth c σ τ D dA A α0 n0 s0 C α1 H1 locs1 la (V.call (τ := τ) hn hs hα hok hP hD hA hS) (am_so_app.mpr ⟨hso, am_so_le hn hrest⟩)
  rw [List.map_append, am_so_ext hα hrest] at hk
  have e2 : v1.toList.map (am_cv σ α1) = (v1.map (am_cv σ α1)).toList := by cases v1 <;> rfl
  rw [e2] at hk
  refine W.cs ?_ ?_ hk
  · omega
  · omega
theorem ev_callV {ci len : Nat} (hd : decode M.2.1 pc = .ok (.invokevirtual idx, 3)) (hmt : am_Mt Z M' d' (.ref a :: as) g (v1, g1)) (hdd : d' < d) (hM : am_Mo M' as.length) (hl : Cond.methodLink M.1.cls idx M'.1 ∈ am_W) (hin : Cond.instanceMethod M'.1 ∈ am_W) (hse : Cond.selects M'.1.cls M'.1 M'.1 ∈ am_W) (hS : am_ok Z g → am_S g a = (ci, len)) (hci : ci < 13) (hR : am_R ci = M'.1.cls) (hcat : (rest.map fun v => v.category).sum ≤ 8) (kk : am_Ev Z M d (pc + 3) ls (v1.toList ++ rest) g1 r) : am_Ev Z M d pc ls (as.reverse ++ .ref a :: rest) g r := by
  have k1 := kk.1
  have k0 : am_n g ≤ am_n g1 ∧ am_s g ≤ am_s g1 := hmt.1
  refine ⟨⟨Nat.le_trans k0.1 k1.1, Nat.le_trans k0.2 k1.2⟩, ?_⟩
  intro p l e R s m args below meth c σ τ D dA A α0 n0 s0 C α H locs la V hst
  obtain ⟨hx, hb, hrt, hml, hown, hts, hlk, hnm, hA, hfr, hlo, hcl, hsl, hX, hO⟩ := id C
  obtain ⟨w1, w2, w3, w4, w5, hP, hD, hSS, hl9⟩ := id V
  obtain ⟨so1, so2⟩ := am_so_app.mp hst
  have so3 : am_so (am_n g) (.ref a :: as) := ⟨so2.1, am_so_rev.mp so1⟩
  have hS := hS w4
  have hpre := am_pre (g := g) (σ := σ) (τ := τ) (as := .ref a :: as) w4 so3 hP hD hSS hA hX hO
  have hfree := am_Afree (g := g) hD hSS hA
  have hrun := va_runV (l := l) (e := e) (below := below) (R := R) (meth := meth) (locs := locs) (cells := am_n g - n0) (slots := am_s g - s0) (C := M'.1.cls) (b := α a) (As := as.map (am_cv σ α)) (rest := rest.map (am_cv σ α)) (g := F0 m pc la ((as.reverse ++ .ref a :: rest).map (am_cv σ α))) (nL := M.2.2.1) (Ts := am_W) ⟨hx, hb, hml, hown, hts⟩ (hmt.2 l σ τ D dA α H.size) (n := as.length) (bytes := M'.2.1) (maxL := M'.2.2.1) (ret := M'.2.2.2)
    ⟨⟨rfl, rfl, by show d' + 1 + 1 ≤ _; omega, by show 8 + (M'.2.2.1 + 11) + (40 * d' + 40) ≤ _; have := hM.2.2.2.2.1; omega, am_Wbef hts hM.ws, List.mem_cons_self, hts _ hM.1, hts _ hM.2.1, hM.2.2.1, hM.len, hts _ hl⟩, hts _ hin, hts _ hse⟩
    ⟨hpre.1, by have := va_recv hX.1 hP (am_cl_at hci) ((am_wl_at so2.1).trans (by rw [am_E_obj hS hci])); rw [← hR]; exact this, hpre.2⟩ rfl (by simp) hl9.1 (by simp [am_cv]) (by show 2 * 0 + _ ≤ 8; rw [am_cats]; omega) hd ⟨by show am_n g - n0 + (am_n g1 - am_n g) ≤ _; rw [hcl]; have := k1.1; omega, by show am_s g - s0 + (am_s g1 - am_s g) ≤ _; rw [hsl]; have := k1.2; omega⟩
  refine am_goOn hrun hSS hfree fun α1 H1 locs1 hα hok hso hP1 hD1 hk hz hS1 => ?_
  exact am_after kk C V so2.2 k0.1 k0.2 hfree α1 H1 locs1 hα hok hso hP1 hD1 hS1
theorem ev_callVN {ci len : Nat} {host : String} (hd : decode M.2.1 pc = .ok (.invokevirtual idx, 3)) (hmt : am_Mt Z M' d' (.ref a :: as) g (v1, g1)) (hdd : d' < d) (hM : am_Mo M' as.length) (hl : Cond.methodLinkNest M.1.cls idx M'.1 host ∈ am_nw) (hin : Cond.instanceMethod M'.1 ∈ am_W) (hse : Cond.selects M'.1.cls M'.1 M'.1 ∈ am_W) (hS : am_ok Z g → am_S g a = (ci, len)) (hci : ci < 13) (hR : am_R ci = M'.1.cls) (hcat : (rest.map fun v => v.category).sum ≤ 8) (kk : am_Ev Z M d (pc + 3) ls (v1.toList ++ rest) g1 r) : am_Ev Z M d pc ls (as.reverse ++ .ref a :: rest) g r := by
  have k1 := kk.1
  have k0 : am_n g ≤ am_n g1 ∧ am_s g ≤ am_s g1 := hmt.1
  refine ⟨⟨Nat.le_trans k0.1 k1.1, Nat.le_trans k0.2 k1.2⟩, ?_⟩
  intro p l e R s m args below meth c σ τ D dA A α0 n0 s0 C α H locs la V hst
  obtain ⟨hx, hb, hrt, hml, hown, hts, hlk, hnm, hA, hfr, hlo, hcl, hsl, hX, hO⟩ := id C
  obtain ⟨w1, w2, w3, w4, w5, hP, hD, hSS, hl9⟩ := id V
  obtain ⟨so1, so2⟩ := am_so_app.mp hst
  have so3 : am_so (am_n g) (.ref a :: as) := ⟨so2.1, am_so_rev.mp so1⟩
  have hS := hS w4
  have hpre := am_pre (g := g) (σ := σ) (τ := τ) (as := .ref a :: as) w4 so3 hP hD hSS hA hX hO
  have hfree := am_Afree (g := g) hD hSS hA
  have hrun := va_runVN (l := l) (e := e) (below := below) (R := R) (meth := meth) (locs := locs) (cells := am_n g - n0) (slots := am_s g - s0) (C := M'.1.cls) (b := α a) (As := as.map (am_cv σ α)) (rest := rest.map (am_cv σ α)) (g := F0 m pc la ((as.reverse ++ .ref a :: rest).map (am_cv σ α))) (nL := M.2.2.1) (Ts := am_W) (host := host) ⟨hx, hb, hml, hown, hts⟩ (hmt.2 l σ τ D dA α H.size) (n := as.length) (bytes := M'.2.1) (maxL := M'.2.2.1) (ret := M'.2.2.2)
    ⟨⟨⟨rfl, rfl, by show d' + 1 + 1 ≤ _; omega, by show 8 + (M'.2.2.1 + 11) + (40 * d' + 40) ≤ _; have := hM.2.2.2.2.1; omega, am_Wbef hts hM.ws, List.mem_cons_self⟩, hts _ hM.1, hts _ hM.2.1, hM.2.2.1, hM.len, va_Nw.use rfl (hX.2.1 _ hl)⟩, hts _ hin, hts _ hse⟩
    ⟨hpre.1, by have := va_recv hX.1 hP (am_cl_at hci) ((am_wl_at so2.1).trans (by rw [am_E_obj hS hci])); rw [← hR]; exact this, hpre.2⟩ rfl (by simp) hl9.1 (by simp [am_cv]) (by show 2 * 0 + _ ≤ 8; rw [am_cats]; omega) hd ⟨by show am_n g - n0 + (am_n g1 - am_n g) ≤ _; rw [hcl]; have := k1.1; omega, by show am_s g - s0 + (am_s g1 - am_s g) ≤ _; rw [hsl]; have := k1.2; omega⟩
  refine am_goOn hrun hSS hfree fun α1 H1 locs1 hα hok hso hP1 hD1 hk hz hS1 => ?_
  exact am_after kk C V so2.2 k0.1 k0.2 hfree α1 H1 locs1 hα hok hso hP1 hD1 hS1
theorem ev_callS (hd : decode M.2.1 pc = .ok (.invokestatic idx, 3)) (hmt : am_Mt Z M' d' as g (v1, g1)) (hdd : d' < d) (hM : am_Mo M' as.length) (hl : Cond.methodLink M.1.cls idx M'.1 ∈ am_W) (hst0 : Cond.static M'.1 ∈ am_W) (hcat : (rest.map fun v => v.category).sum ≤ 8) (kk : am_Ev Z M d (pc + 3) ls (v1.toList ++ rest) g1 r) : am_Ev Z M d pc ls (as.reverse ++ rest) g r := by
  have k1 := kk.1
  have k0 : am_n g ≤ am_n g1 ∧ am_s g ≤ am_s g1 := hmt.1
  refine ⟨⟨Nat.le_trans k0.1 k1.1, Nat.le_trans k0.2 k1.2⟩, ?_⟩
  intro p l e R s m args below meth c σ τ D dA A α0 n0 s0 C α H locs la V hst
  obtain ⟨hx, hb, hrt, hml, hown, hts, hlk, hnm, hA, hfr, hlo, hcl, hsl, hX, hO⟩ := id C
  obtain ⟨w1, w2, w3, w4, w5, hP, hD, hSS, hl9⟩ := id V
  obtain ⟨so1, so2⟩ := am_so_app.mp hst
  have hpre := am_pre (g := g) (σ := σ) (τ := τ) (as := as) w4 (am_so_rev.mp so1) hP hD hSS hA hX hO
  have hfree := am_Afree (g := g) hD hSS hA
  have hrun := va_runS (l := l) (e := e) (below := below) (R := R) (meth := meth) (locs := locs) (cells := am_n g - n0) (slots := am_s g - s0) (As := as.map (am_cv σ α)) (rest := rest.map (am_cv σ α)) (g := F0 m pc la ((as.reverse ++ rest).map (am_cv σ α))) (nL := M.2.2.1) (Ts := am_W) ⟨hx, hb, hml, hown, hts⟩ (hmt.2 l σ τ D dA α H.size) (n := as.length) (bytes := M'.2.1) (maxL := M'.2.2.1) (ret := M'.2.2.2)
    ⟨⟨rfl, rfl, by show d' + 1 + 1 ≤ _; omega, by show 8 + (M'.2.2.1 + 11) + (40 * d' + 40) ≤ _; have := hM.2.2.2.2.1; omega, am_Wbef hts hM.ws, List.mem_cons_self, hts _ hM.1, hts _ hM.2.1, hM.2.2.1, hM.len, hts _ hl⟩, hts _ hst0⟩
    hpre rfl (by simp) hl9.1 (by simp) (by show 2 * 0 + _ ≤ 8; rw [am_cats]; omega) hd ⟨by show am_n g - n0 + (am_n g1 - am_n g) ≤ _; rw [hcl]; have := k1.1; omega, by show am_s g - s0 + (am_s g1 - am_s g) ≤ _; rw [hsl]; have := k1.2; omega⟩
  refine am_goOn hrun hSS hfree fun α1 H1 locs1 hα hok hso hP1 hD1 hk hz hS1 => ?_
  exact am_after kk C V so2 k0.1 k0.2 hfree α1 H1 locs1 hα hok hso hP1 hD1 hS1
theorem ev_callSN {host : String} (hd : decode M.2.1 pc = .ok (.invokestatic idx, 3)) (hmt : am_Mt Z M' d' as g (v1, g1)) (hdd : d' < d) (hM : am_Mo M' as.length) (hl : Cond.methodLinkNest M.1.cls idx M'.1 host ∈ am_nw) (hst0 : Cond.static M'.1 ∈ am_W) (hcat : (rest.map fun v => v.category).sum ≤ 8) (kk : am_Ev Z M d (pc + 3) ls (v1.toList ++ rest) g1 r) : am_Ev Z M d pc ls (as.reverse ++ rest) g r := by
  have k1 := kk.1
  have k0 : am_n g ≤ am_n g1 ∧ am_s g ≤ am_s g1 := hmt.1
  refine ⟨⟨Nat.le_trans k0.1 k1.1, Nat.le_trans k0.2 k1.2⟩, ?_⟩
  intro p l e R s m args below meth c σ τ D dA A α0 n0 s0 C α H locs la V hst
  obtain ⟨hx, hb, hrt, hml, hown, hts, hlk, hnm, hA, hfr, hlo, hcl, hsl, hX, hO⟩ := id C
  obtain ⟨w1, w2, w3, w4, w5, hP, hD, hSS, hl9⟩ := id V
  obtain ⟨so1, so2⟩ := am_so_app.mp hst
  have hpre := am_pre (g := g) (σ := σ) (τ := τ) (as := as) w4 (am_so_rev.mp so1) hP hD hSS hA hX hO
  have hfree := am_Afree (g := g) hD hSS hA
  have hrun := va_runSN (l := l) (e := e) (below := below) (R := R) (meth := meth) (locs := locs) (cells := am_n g - n0) (slots := am_s g - s0) (As := as.map (am_cv σ α)) (rest := rest.map (am_cv σ α)) (g := F0 m pc la ((as.reverse ++ rest).map (am_cv σ α))) (nL := M.2.2.1) (Ts := am_W) (host := host) ⟨hx, hb, hml, hown, hts⟩ (hmt.2 l σ τ D dA α H.size) (n := as.length) (bytes := M'.2.1) (maxL := M'.2.2.1) (ret := M'.2.2.2)
    ⟨⟨⟨rfl, rfl, by show d' + 1 + 1 ≤ _; omega, by show 8 + (M'.2.2.1 + 11) + (40 * d' + 40) ≤ _; have := hM.2.2.2.2.1; omega, am_Wbef hts hM.ws, List.mem_cons_self⟩, hts _ hM.1, hts _ hM.2.1, hM.2.2.1, hM.len, va_Nw.use rfl (hX.2.1 _ hl)⟩, hts _ hst0, trivial⟩
    hpre rfl (by simp) hl9.1 (by simp) (by show 2 * 0 + _ ≤ 8; rw [am_cats]; omega) hd ⟨by show am_n g - n0 + (am_n g1 - am_n g) ≤ _; rw [hcl]; have := k1.1; omega, by show am_s g - s0 + (am_s g1 - am_s g) ≤ _; rw [hsl]; have := k1.2; omega⟩
  refine am_goOn hrun hSS hfree fun α1 H1 locs1 hα hok hso hP1 hD1 hk hz hS1 => ?_
  exact am_after kk C V so2 k0.1 k0.2 hfree α1 H1 locs1 hα hok hso hP1 hD1 hS1
theorem ev_callI (hd : decode M.2.1 pc = .ok (.invokespecial idx, 3)) (hmt : am_Mt Z M' d' (.ref a :: as) g (none, g1)) (hdd : d' < d) (hM : am_Mo M' as.length) (hl : Cond.methodLink M.1.cls idx M'.1 ∈ am_W) (hin : Cond.instanceMethod M'.1 ∈ am_W) (hi : M'.1.name = "<init>" ∧ M'.2.2.2 = none) (hcat : (rest.map fun v => v.category).sum ≤ 8) (kk : am_Ev Z M d (pc + 3) ls rest g1 r) : am_Ev Z M d pc ls (as.reverse ++ .ref a :: rest) g r := by
  have k1 := kk.1
  have k0 : am_n g ≤ am_n g1 ∧ am_s g ≤ am_s g1 := hmt.1
  refine ⟨⟨Nat.le_trans k0.1 k1.1, Nat.le_trans k0.2 k1.2⟩, ?_⟩
  intro p l e R s m args below meth c σ τ D dA A α0 n0 s0 C α H locs la V hst
  obtain ⟨hx, hb, hrt, hml, hown, hts, hlk, hnm, hA, hfr, hlo, hcl, hsl, hX, hO⟩ := id C
  obtain ⟨w1, w2, w3, w4, w5, hP, hD, hSS, hl9⟩ := id V
  obtain ⟨so1, so2⟩ := am_so_app.mp hst
  have so3 : am_so (am_n g) (.ref a :: as) := ⟨so2.1, am_so_rev.mp so1⟩
  have hpre := am_pre (g := g) (σ := σ) (τ := τ) (as := .ref a :: as) w4 so3 hP hD hSS hA hX hO
  have hfree := am_Afree (g := g) hD hSS hA
  have hcode := hM.1
  rw [hi.2] at hcode
  have hcm : Cond.code M'.1 M'.2.1 M'.2.2.1 none ∈ am_ws M' := by unfold am_ws; rw [hi.2]; exact List.mem_cons_self
  have hrun := va_runI (l := l) (e := e) (below := below) (R := R) (meth := meth) (locs := locs) (cells := am_n g - n0) (slots := am_s g - s0) (b := α a) (As := as.map (am_cv σ α)) (rest := rest.map (am_cv σ α)) (g := F0 m pc la ((as.reverse ++ .ref a :: rest).map (am_cv σ α))) (nL := M.2.2.1) (Ts := am_W) ⟨hx, hb, hml, hown, hts⟩ (hmt.2 l σ τ D dA α H.size) (n := as.length) (bytes := M'.2.1) (maxL := M'.2.2.1)
    ⟨⟨rfl, rfl, by show d' + 1 + 1 ≤ _; omega, by show 8 + (M'.2.2.1 + 11) + (40 * d' + 40) ≤ _; have := hM.2.2.2.2.1; omega, am_Wbef hts hM.ws, hcm, hts _ hcode, hts _ hM.2.1, hM.2.2.1, hM.len, hts _ hl⟩, hi.1, hts _ hin⟩
    hpre rfl (by simp) hl9.1 (by simp [am_cv]) (by show 2 * 0 + _ ≤ 8; rw [am_cats]; omega) hd ⟨by show am_n g - n0 + (am_n g1 - am_n g) ≤ _; rw [hcl]; have := k1.1; omega, by show am_s g - s0 + (am_s g1 - am_s g) ≤ _; rw [hsl]; have := k1.2; omega⟩
  refine am_goOn hrun hSS hfree fun α1 H1 locs1 hα hok hso hP1 hD1 hk hz hS1 => ?_
  exact am_after (v1 := none) kk C V so2.2 k0.1 k0.2 hfree α1 H1 locs1 hα hok hso hP1 hD1 hS1
theorem ev_callIN {host : String} (hd : decode M.2.1 pc = .ok (.invokespecial idx, 3)) (hmt : am_Mt Z M' d' (.ref a :: as) g (none, g1)) (hdd : d' < d) (hM : am_Mo M' as.length) (hl : Cond.methodLinkNest M.1.cls idx M'.1 host ∈ am_nw) (hin : Cond.instanceMethod M'.1 ∈ am_W) (hi : M'.1.name = "<init>" ∧ M'.2.2.2 = none) (hcat : (rest.map fun v => v.category).sum ≤ 8) (kk : am_Ev Z M d (pc + 3) ls rest g1 r) : am_Ev Z M d pc ls (as.reverse ++ .ref a :: rest) g r := by
  have k1 := kk.1
  have k0 : am_n g ≤ am_n g1 ∧ am_s g ≤ am_s g1 := hmt.1
  refine ⟨⟨Nat.le_trans k0.1 k1.1, Nat.le_trans k0.2 k1.2⟩, ?_⟩
  intro p l e R s m args below meth c σ τ D dA A α0 n0 s0 C α H locs la V hst
  obtain ⟨hx, hb, hrt, hml, hown, hts, hlk, hnm, hA, hfr, hlo, hcl, hsl, hX, hO⟩ := id C
  obtain ⟨w1, w2, w3, w4, w5, hP, hD, hSS, hl9⟩ := id V
  obtain ⟨so1, so2⟩ := am_so_app.mp hst
  have so3 : am_so (am_n g) (.ref a :: as) := ⟨so2.1, am_so_rev.mp so1⟩
  have hpre := am_pre (g := g) (σ := σ) (τ := τ) (as := .ref a :: as) w4 so3 hP hD hSS hA hX hO
  have hfree := am_Afree (g := g) hD hSS hA
  have hcode := hM.1
  rw [hi.2] at hcode
  have hcm : Cond.code M'.1 M'.2.1 M'.2.2.1 none ∈ am_ws M' := by unfold am_ws; rw [hi.2]; exact List.mem_cons_self
  have hrun := va_runIN (l := l) (e := e) (below := below) (R := R) (meth := meth) (locs := locs) (cells := am_n g - n0) (slots := am_s g - s0) (b := α a) (As := as.map (am_cv σ α)) (rest := rest.map (am_cv σ α)) (g := F0 m pc la ((as.reverse ++ .ref a :: rest).map (am_cv σ α))) (nL := M.2.2.1) (Ts := am_W) (host := host) ⟨hx, hb, hml, hown, hts⟩ (hmt.2 l σ τ D dA α H.size) (n := as.length) (bytes := M'.2.1) (maxL := M'.2.2.1)
    ⟨⟨⟨rfl, rfl, by show d' + 1 + 1 ≤ _; omega, by show 8 + (M'.2.2.1 + 11) + (40 * d' + 40) ≤ _; have := hM.2.2.2.2.1; omega, am_Wbef hts hM.ws, hcm⟩, hts _ hcode, hts _ hM.2.1, hM.2.2.1, hM.len, va_Nw.use rfl (hX.2.1 _ hl)⟩, hi.1, hts _ hin⟩
    hpre rfl (by simp) hl9.1 (by simp [am_cv]) (by show 2 * 0 + _ ≤ 8; rw [am_cats]; omega) hd ⟨by show am_n g - n0 + (am_n g1 - am_n g) ≤ _; rw [hcl]; have := k1.1; omega, by show am_s g - s0 + (am_s g1 - am_s g) ≤ _; rw [hsl]; have := k1.2; omega⟩
  refine am_goOn hrun hSS hfree fun α1 H1 locs1 hα hok hso hP1 hD1 hk hz hS1 => ?_
  exact am_after (v1 := none) kk C V so2.2 k0.1 k0.2 hfree α1 H1 locs1 hα hok hso hP1 hD1 hS1
end AMK
theorem am_args (σ : Nat) (α : Nat → Nat) : ∀ (i : Nat) (as : List Value), lv_args i (as.map (am_cv σ α)) = (lv_args i as).map fun q => (q.1, am_cv σ α q.2)
  | _, [] => rfl
  | i, v :: as => by
    show (i, am_cv σ α v) :: lv_args (if (am_cv σ α v).category = 2 then i + 2 else i + 1) (as.map (am_cv σ α)) = (i, am_cv σ α v) :: (lv_args (if v.category = 2 then i + 2 else i + 1) as).map fun q => (q.1, am_cv σ α q.2)
    rw [am_cat, am_args]
theorem am_sllen (σ : Nat) (α : Nat → Nat) : ∀ as : List Value, (lg_sl (as.map (am_cv σ α))).length = (lg_sl as).length
  | [] => rfl
  | v :: as => by
    have h := am_sllen σ α as
    simp only [lg_sl, List.map_cons, List.flatMap_cons, List.length_append, am_cat] at h ⊢
    rw [h]
    split <;> rfl
theorem am_argso {n : Nat} : ∀ {i : Nat} {as : List Value}, am_so n as → ∀ q ∈ lv_args i as, am_vo n q.2
  | _, [], _, q, hq => absurd hq List.not_mem_nil
  | i, v :: as, hs, q, hq => by
    rcases List.mem_cons.mp hq with rfl | hq
    · exact hs.1
    · exact am_argso hs.2 q hq
/-- a method's contract, out of the walk from its entry -/
theorem am_Mt.of {Z : am_Z} {M : am_M} {d : Nat} {as : List Value} {g : am_G} {r : Option Value × am_G} (hp : plainName M.1.cls = true) (hsl : (lg_sl as).length ≤ M.2.2.1) (h : am_Ev Z M d 0 (lv_args 0 as) [] g r) : am_Mt Z M d as g r := by
  refine ⟨h.1, fun l σ τ D dA α sz => ?_⟩
  refine Met.ofW (cc := M.2.1) (maxL := M.2.2.1) (ret := M.2.2.2) hp rfl ?_
  intro p e s m args below meth c s₁ B hml hv
  obtain ⟨rfl, rfl, hok, hso, hP, hD0, hX, hO⟩ := hv
  have hts := atoms_spec (ws := am_ws M) B.pre
  have hD := hD0.self (sz := s.heap.size)
  have hown : s.vm.findClass M.1.cls = some m.cls := findClass_of_methodNamed B.named
  have hname := (name_of_methodNamed B.named B.method).1
  have hl := lv_entry (as.map (am_cv σ α)) (n := M.2.2.1) (by rw [am_sllen]; exact hsl)
  rw [lg_entry_eq]
  generalize (lg_sl (as.map (am_cv σ α)) ++ List.replicate (M.2.2.1 - (lg_sl (as.map (am_cv σ α))).length) Slot.unset).toArray = la at hl ⊢
  rw [am_args] at hl
  have hW := h.2 p l e (headSpec (am_ws M) { frames := d + 1, cells := am_n r.2 - am_n g, slots := am_s r.2 - am_s g, locals := 40 * d + 40 }).room s m (as.map (am_cv σ α)).toArray below meth c σ τ D dA (va_A (am_wl dA σ α g) s.heap.size) α (am_n g) (am_s g)
    ⟨B.exec, B.bytes, B.returns, hml, hown, fun w hw => hts w (List.mem_cons_of_mem _ hw), B.notSynchronized, hname, fun q hq => Or.inr hq, Nat.le_refl _, Nat.le_refl _, rfl, rfl, hX, hO⟩ α s.heap [] la
    ⟨fun _ _ => rfl, Nat.le_refl _, Nat.le_refl _, hok, am_argso hso, hP, hD, va_S.rf, hl⟩ trivial
  rw [Nat.sub_self, Nat.sub_self] at hW
  exact hW

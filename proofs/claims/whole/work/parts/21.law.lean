/-! THE CLAIM OUT OF ONE WALK OF THE LAW'S BODY. Your part is whole_start (and what it stands on); all else here is the same for every law, but numbers. -/
def R_law : String := "WordSlidesLaw"
def lw_P (b : Addr) (xs : List Int32) (args : Array Value) (s : State) : Prop := args = #[.ref b] ∧ s.IntsAt b xs ∧ xs.length ≤ 3072 ∧ (Jvm.Cond.and given_1 narrow_1).before args s = true
def lw_Q (_ : Array Value) (s : State) (o : Outcome) (t : State) : Prop := o = .returned (some (.int 1)) ∧ Framed s o t [] 600000 7302250
def lw_Z (below : List Frame) (a : Array Value) (s : State) : State → Prop := fun t => ∃ o, t.status = .running ∧ Ended t below o ∧ lw_Q a s o t
/-- the law's own end, with 1 on the stack, nothing written that was there before, its room as the claim has it -/
theorem lw_ret {p : Program} {l : Launch} {e : Env} {s : State} {m : MethodId} {below : List Frame} {meth : Method} {c : Code} {b : Nat} (hx : p.tables.exec = Jvm.exec) (hb : c.code = code) (hr : meth.sig.returnType = ret) (hlocks : meth.locks = false) {pc : Nat} {H : Heap} {ls : Array Slot} (hdg : decode code pc = .ok (.ireturn, 1)) : W p l e room_1 s m #[Value.ref b] below meth c H [] 600000 7302250 (lw_Z below #[Value.ref b] s) (F0 m pc ls [.int 1]) := by
  intro T hT X
  obtain ⟨fs, hret, hrun, hended, hW, hframe⟩ := X.leave (v := some (.int 1)) (hlocks := hlocks) (fun h => by rw [hr] at h; cases h)
  have hmeth' : T.vm.method? m = some meth := X.method'
  refine ⟨T.setFrames fs, ?_, .returned (some (.int 1)), hrun, hended, rfl, ⟨_, rfl⟩, hW, hframe⟩
  jvm_step X.here [X.here.top, hx, hb, hdg, hmeth', hr, ret, narrow_b1]
  (try refine ⟨rfl, ?_⟩); (try refine ⟨rfl, ?_⟩)
  first | (intro acts; rw [hret _ acts rfl rfl rfl]) | rw [hret _ _ rfl rfl rfl]
  exact Steps.refl _
/-- what holds at the law's entry: the machine, the code, the tables' words (any of lw_tbl by 'hts w (by decide +kernel)'), the script of L ints xs at the cell b, what the Statement gives of the start (any of its parts by flat_of_before) -/
def lw_At (p : Program) (s : State) (m : MethodId) (meth : Method) (c : Code) (b L : Nat) (xs : Nat → Int32) : Prop :=
  p.tables.exec = Jvm.exec ∧ c.code = code ∧ meth.sig.returnType = ret ∧ c.maxLocals = 4 ∧ s.vm.findClass R_law = some m.cls ∧ (∀ w ∈ lw_tbl, w.before #[Value.ref b] s = true) ∧ va_X b L xs s s.heap ∧ b < s.heap.size ∧ meth.locks = false ∧ (Jvm.Cond.and given_1 narrow_1).before #[Value.ref b] s = true
/-- the room of both heaps, and that Rel may wait -/
def lw_N (Rel : Nat → am_G → am_G → Prop) : Prop := (∀ (t : Nat) (gc gr : am_G), t ≤ 512 → Rel t gc gr → am_n gc + am_n gr ≤ 600000 ∧ am_s gc + am_s gr ≤ 7302250) ∧ ∀ (t : Nat) (gc gr : am_G), Rel t gc gr → Rel (t + 1) gc gr
theorem lw_swP {D : va_G} {cl : List vw_C} {a b : va_W} {H : Heap} (h : va_P D cl (a ++ b) H) : va_P D cl (b ++ a) H := (show va_P D cl (([] ++ a) ++ b) H from h).swap
theorem lw_swD {A : Nat → Prop} {a b : va_W} (h : va_D A (a ++ b)) : va_D A (b ++ a) := (show va_D A (([] ++ a) ++ b) from h).swap
theorem lw_go {t L : Nat} (hL : L ≤ 3072) (h : 6 * t + 6 ≤ L) : ¬ (Int32.ofNat L - 6 < nI (6 * t)) := by
  have e : Int32.ofNat L - 6 = nI (L - 6) := by
    have h1 : nI (L - 6) + nI 6 = nI L := by rw [nI_add]; congr 1; omega
    show nI L - nI 6 = nI (L - 6)
    rw [← h1]
    exact Int32.add_sub_cancel _ _
  rw [e]
  intro z
  have := (nI_ltI (by omega) (by omega)).mp z
  omega
theorem lw_stop {t L : Nat} (hL : L ≤ 3072) (ht : t ≤ 512) (h : L < 6 * t + 6) : Int32.ofNat L - 6 < nI (6 * t) := by
  by_cases h6 : 6 ≤ L
  · have e : Int32.ofNat L - 6 = nI (L - 6) := by
      have h1 : nI (L - 6) + nI 6 = nI L := by rw [nI_add]; congr 1; omega
      show nI L - nI 6 = nI (L - 6)
      rw [← h1]
      exact Int32.add_sub_cancel _ _
    rw [e]
    exact nI_lt (by omega) (by omega)
  · have h0 : (0 : Int32) ≤ nI (6 * t) := nI_le (a := 0) (Nat.zero_le _) (by omega)
    refine Int32.lt_of_lt_of_le ?_ h0
    rcases (show L = 0 ∨ L = 1 ∨ L = 2 ∨ L = 3 ∨ L = 4 ∨ L = 5 by omega) with rfl | rfl | rfl | rfl | rfl | rfl <;> decide
theorem lw_end {p : Program} {l : Launch} {e : Env} {s : State} {m : MethodId} {below : List Frame} {meth : Method} {c : Code} {b L : Nat} {xs : Nat → Int32} (hx : p.tables.exec = Jvm.exec) (hb : c.code = code) (hr : meth.sig.returnType = ret) (hlocks : meth.locks = false) (hL : L ≤ 3072) (hX : va_X b L xs s s.heap) (hbl : b < s.heap.size) {Rel : Nat → am_G → am_G → Prop} (hN : lw_N Rel) {t : Nat} (ht : t ≤ 512) (h : L < 6 * t + 6) {gc gr : am_G} (hRel : Rel t gc gr) {H : Heap} {locs : List Loc} {la : Array Slot} {q0 q1 : Nat} (hS : va_S (fun q => s.heap.size ≤ q) s.heap H locs) (hl : lv_has la 4 [(0, .ref b), (1, .ref q0), (2, .ref q1), (3, .int (nI (6 * t)))]) :
    W p l e room_1 s m #[Value.ref b] below meth c H locs (am_n gc + am_n gr) (am_s gc + am_s gr) (lw_Z below #[Value.ref b] s) (F0 m 18 la []) := by
  have hbA : ¬ (fun q : Nat => s.heap.size ≤ q) b := Nat.not_le.mpr hbl
  have hn := hN.1 t gc gr ht hRel
  refine lv_iload_n hx hb dL_18 rfl (lv_at hl 3 rfl) ?_
  refine lv_aload_n hx hb dL_19 rfl (lv_at hl 0 rfl) ?_
  refine va_slen hx hb hX hbl hbA hS dL_20 ?_
  refine lv_bipush (v := 6) hx hb dL_21 rfl ?_
  refine lv_isub hx hb dL_23 ?_
  refine lv_icmp_gt (tgt := 1337) hx hb dL_24 (by decide) (fun _ => ?_) (fun z => absurd (lw_stop hL ht h) z)
  refine lv_iconst (v := 1) hx hb dL_1337 rfl ?_
  refine va_forget (fun q hq => hS.2.2 q hq) ?_
  refine W.widen hn.1 hn.2 ?_
  exact lw_ret hx hb hr hlocks dL_1338
theorem lw_join {A : Nat → Prop} {D : va_G} {cl : List vw_C} {w1 w2 w3 : va_W} {H H1 : Heap} (hP : va_P D cl (w1 ++ w2) H) (hD : va_D A (w1 ++ w2)) (hk : ∀ q : Nat, q < H.size → ¬ va_A w1 H.size q → H1[q]? = H[q]?) (hF : ∀ q, va_A w1 H.size q → A q) (hP1 : va_P D cl w3 H1) (hD1 : va_D (va_A w1 H.size) w3) : va_P D cl (w3 ++ w2) H1 ∧ va_D A (w3 ++ w2) := by
  have at2 : ∀ (k : Nat) (q : Nat × va_E), w2[k]? = some q → (w1 ++ w2)[w1.length + k]? = some q := by
    intro k q hq
    rw [List.getElem?_append_right (Nat.le_add_right _ _), Nat.add_sub_cancel_left]
    exact hq
  have apart : ∀ (k : Nat) (q : Nat × va_E), w2[k]? = some q → q.1 < H.size ∧ ¬ va_A w1 H.size q.1 := by
    intro k q hq
    have hl := (hP _ q (at2 k q hq)).lt
    refine ⟨hl, fun h => ?_⟩
    rcases h with ⟨k2, e, h⟩ | h
    · have hk2 : k2 < w1.length := (List.getElem?_eq_some_iff.mp h).1
      have h3 : (w1 ++ w2)[k2]? = some (q.1, e) := by rw [List.getElem?_append_left hk2]; exact h
      have := hD.1 k2 (w1.length + k) (q.1, e) q h3 (at2 k q hq) rfl
      omega
    · omega
  refine ⟨va_P.app hP1 (fun k q hq => ?_), va_D.app (hD1.weaken (fun k q _ h => hF q.1 h)) ⟨fun i j x y hx hy hxy => ?_, fun k q hq => hD.2 _ q (at2 k q hq)⟩ (fun i j x y hx hy hxy => ?_)⟩
  · obtain ⟨g1, g2⟩ := apart k q hq
    exact (hP _ q (at2 k q hq)).kept (hk q.1 g1 g2)
  · have := hD.1 _ _ x y (at2 i x hx) (at2 j y hy) hxy
    omega
  · exact (apart j y hy).2 (by rw [← hxy]; exact hD1.2 i x hx)
theorem lw_call {p : Program} {l : Launch} {e : Env} {s : State} {m : MethodId} {args : Array Value} {below : List Frame} {meth : Method} {c : Code} {H : Heap} {locs : List Loc} {cells slots : Nat} {Q : State → Prop} {la : Array Slot} {lv : List (Nat × Value)} {σ τ : Nat} {D : va_G} {dA : Nat → ClassId} {Z : am_Z} {M' : am_M} {d' ci len idx pc : Nat} {as rest : List Value} {g g1 : am_G} {v : Int32} {α : Nat → Nat} {w2 : va_W}
    (hts : ∀ w ∈ am_W, w.before args s = true) (hx : p.tables.exec = Jvm.exec) (hb : c.code = code) (hml : c.maxLocals = 4) (hown : s.vm.findClass R_law = some m.cls) (hX : am_X σ τ D dA s) (hO : am_O σ τ (fun q => s.heap.size ≤ q) s s.heap) (hmt : am_Mt Z M' d' (.ref 0 :: as) g (some (.int v), g1)) (hok : am_ok Z g) (hP : va_P D am_cl (am_wl dA σ α g ++ w2) H) (hD : va_D (fun q => s.heap.size ≤ q) (am_wl dA σ α g ++ w2)) (hS : va_S (fun q => s.heap.size ≤ q) s.heap H locs) (hl : lv_has la 4 lv) (hM : am_Mo M' as.length) (hlk : Cond.methodLink R_law idx M'.1 ∈ am_W) (hin : Cond.instanceMethod M'.1 ∈ am_W) (hse : Cond.selects M'.1.cls M'.1 M'.1 ∈ am_W) (has : ∀ β : Nat → Nat, as.map (am_cv σ β) = as) (haso : am_so (am_n g) as) (hSh : 0 < am_n g ∧ am_S g 0 = (ci, len)) (hci : ci < 13) (hR : am_R ci = M'.1.cls) (hcat : (rest.map fun v => v.category).sum ≤ 8) (hd' : d' ≤ 1000) (hc1 : cells + (am_n g1 - am_n g) ≤ 600000) (hc2 : slots + (am_s g1 - am_s g) ≤ 7302250) (hdg : decode code pc = .ok (.invokevirtual idx, 3)) (st : List Value) (hst : st = as.reverse ++ .ref (α 0) :: rest)
    (kk : ∀ (α1 : Nat → Nat) (H1 : Heap) (locs1 : List Loc), am_ok Z g1 → va_P D am_cl (am_wl dA σ α1 g1 ++ w2) H1 → va_D (fun q => s.heap.size ≤ q) (am_wl dA σ α1 g1 ++ w2) → va_S (fun q => s.heap.size ≤ q) s.heap H1 locs1 → α1 0 = α 0 → W p l e room_1 s m args below meth c H1 locs1 (cells + (am_n g1 - am_n g)) (slots + (am_s g1 - am_s g)) Q (F0 m (pc + 3) la (.int v :: rest))) : W p l e room_1 s m args below meth c H locs cells slots Q (F0 m pc la st) := by
  subst hst
  have hP0 : va_P D am_cl (am_wl dA σ α g) H := fun k q hq => hP k q (by rw [List.getElem?_append_left (List.getElem?_eq_some_iff.mp hq).1]; exact hq)
  have hD0 : va_D (fun q => s.heap.size ≤ q) (am_wl dA σ α g) := by
    have up : ∀ (k : Nat) (q : Nat × va_E), (am_wl dA σ α g)[k]? = some q → (am_wl dA σ α g ++ w2)[k]? = some q := fun k q hq => by rw [List.getElem?_append_left (List.getElem?_eq_some_iff.mp hq).1]; exact hq
    exact ⟨fun i j x y hx hy hxy => hD.1 i j x y (up i x hx) (up j y hy) hxy, fun k q hq => hD.2 k q (up k q hq)⟩
  have hA : ∀ q, s.heap.size ≤ q → (fun q => s.heap.size ≤ q) q := fun _ h => h
  have hpre := am_pre (g := g) (σ := σ) (τ := τ) (as := .ref 0 :: as) hok ⟨hSh.1, haso⟩ hP0 hD0 hS hA hX hO
  have hfree := am_Afree (g := g) hD0 hS hA
  have e0 : (Value.ref 0 :: as).map (am_cv σ α) = .ref (α 0) :: as := by rw [List.map_cons, has]; rfl
  rw [e0] at hpre
  have hMt := hmt.2 l σ τ D dA α H.size
  rw [e0] at hMt
  have hrun := va_runV (l := l) (e := e) (below := below) (R := room_1) (meth := meth) (locs := locs) (cells := cells) (slots := slots) (C := M'.1.cls) (b := α 0) (As := as) (rest := rest) (g := F0 m pc la (as.reverse ++ .ref (α 0) :: rest)) (nL := 4) (Ts := am_W) ⟨hx, hb, hml, hown, hts⟩ hMt (n := as.length) (bytes := M'.2.1) (maxL := M'.2.2.1) (ret := M'.2.2.2)
    ⟨⟨rfl, rfl, by show d' + 1 + 1 ≤ 2048; omega, by show 8 + (M'.2.2.1 + 11) + (40 * d' + 40) ≤ 84000; have := hM.2.2.2.2.1; omega, am_Wbef hts hM.ws, List.mem_cons_self, hts _ hM.1, hts _ hM.2.1, hM.2.2.1, hM.len, hts _ hlk⟩, hts _ hin, hts _ hse⟩
    ⟨hpre.1, by have := va_recv hX.1 hP0 (am_cl_at hci) ((am_wl_at hSh.1).trans (by rw [am_E_obj hSh.2 hci])); rw [← hR]; exact this, hpre.2⟩ rfl rfl hl.1 rfl (by show 2 * 0 + _ ≤ 8; omega) hdg ⟨hc1, hc2⟩
  refine am_goOn (Z := Z) hrun hS hfree fun α1 H1 locs1 hα hok1 hso hP1 hD1 hk hz hS1 => ?_
  obtain ⟨hP2, hD2⟩ := lw_join hP hD hk hfree hP1 hD1
  exact kk α1 H1 locs1 hok1 hP2 hD2 hS1 (hα 0 hSh.1)
/-- what is to be shown of the two programs, method by method -/
def lw_H (Rel : Nat → am_G → am_G → Prop) : Prop :=
  (∀ (t : Nat) (gc gr : am_G) (a1 a2 a3 : Int32), t < 512 → Rel t gc gr → ∃ (v : Int32) (gc1 gr1 : am_G), fX11_put a1 a2 a3 gc = some (v, gc1) ∧ fX12_put a1 a2 a3 gr = some (v, gr1) ∧ Rel (t + 1) gc1 gr1) ∧
  (∀ (t : Nat) (gc gr : am_G) (a1 a2 : Int32), t < 512 → Rel t gc gr → ∃ (v : Int32) (gc1 gr1 : am_G), fX11_of a1 a2 gc = some (v, gc1) ∧ fX12_of a1 a2 gr = some (v, gr1) ∧ Rel (t + 1) gc1 gr1) ∧
  (∀ (t : Nat) (gc gr : am_G) (a1 a2 a3 : Int32), t < 512 → Rel t gc gr → ∃ (v : Int32) (gc1 gr1 : am_G), fX11_word a1 a2 a3 gc = some (v, gc1) ∧ fX12_word a1 a2 a3 gr = some (v, gr1) ∧ Rel (t + 1) gc1 gr1) ∧
  (∀ (t : Nat) (gc gr : am_G) (a1 a2 : Int32), t < 512 → Rel t gc gr → ∃ (v : Int32) (gc1 gr1 : am_G), fX11_at a1 a2 gc = some (v, gc1) ∧ fX12_at a1 a2 gr = some (v, gr1) ∧ Rel (t + 1) gc1 gr1) ∧
  (∀ (t : Nat) (gc gr : am_G) (a1 a2 : Int32), t < 512 → Rel t gc gr → ∃ (v : Int32) (gc1 gr1 : am_G), fX11_often a1 a2 gc = some (v, gc1) ∧ fX12_often a1 a2 gr = some (v, gr1) ∧ Rel (t + 1) gc1 gr1) ∧
  (∀ (t : Nat) (gc gr : am_G) (a1 a2 : Int32), t < 512 → Rel t gc gr → ∃ (v : Int32) (gc1 gr1 : am_G), fX11_terms a1 a2 gc = some (v, gc1) ∧ fX12_terms a1 a2 gr = some (v, gr1) ∧ Rel (t + 1) gc1 gr1) ∧
  (∀ (t : Nat) (gc gr : am_G) (a1 a2 a3 a4 a5 : Int32), t < 512 → Rel t gc gr → ∃ (v : Int32) (gc1 gr1 : am_G), fX11_feed a1 a2 a3 a4 a5 gc = some (v, gc1) ∧ fX12_feed a1 a2 a3 a4 a5 gr = some (v, gr1) ∧ Rel (t + 1) gc1 gr1) ∧
  (∀ (t : Nat) (gc gr : am_G) (a1 : Int32), t < 512 → Rel t gc gr → ∃ (v : Int32) (gc1 gr1 : am_G), fX11_end a1 gc = some (v, gc1) ∧ fX12_end a1 gr = some (v, gr1) ∧ Rel (t + 1) gc1 gr1) ∧
  (∀ (t : Nat) (gc gr : am_G), t < 512 → Rel t gc gr → ∃ (v : Int32) (gc1 gr1 : am_G), fX11_row gc = some (v, gc1) ∧ fX12_row gr = some (v, gr1) ∧ Rel (t + 1) gc1 gr1) ∧
  (∀ (t : Nat) (gc gr : am_G), t < 512 → Rel t gc gr → ∃ (v : Int32) (gc1 gr1 : am_G), fX11_murmur gc = some (v, gc1) ∧ fX12_murmur gr = some (v, gr1) ∧ Rel (t + 1) gc1 gr1) ∧
  (∀ (t : Nat) (gc gr : am_G), t < 512 → Rel t gc gr → ∃ (v : Int32) (gc1 gr1 : am_G), fX11_law gc = some (v, gc1) ∧ fX12_law gr = some (v, gr1) ∧ Rel (t + 1) gc1 gr1) ∧
  (∀ (t : Nat) (gc gr : am_G), t < 512 → Rel t gc gr → ∃ (v : Int32) (gc1 gr1 : am_G), fX11_told gc = some (v, gc1) ∧ fX12_told gr = some (v, gr1) ∧ Rel (t + 1) gc1 gr1) ∧
  (∀ (t : Nat) (gc gr : am_G), t < 512 → Rel t gc gr → ∃ (v : Int32) (gc1 gr1 : am_G), fX11_fault gc = some (v, gc1) ∧ fX12_fault gr = some (v, gr1) ∧ Rel (t + 1) gc1 gr1) ∧
  (∀ (t : Nat) (gc gr : am_G), t < 512 → Rel t gc gr → ∃ (v : Int32) (gc1 gr1 : am_G), fX11_stopped gc = some (v, gc1) ∧ fX12_stopped gr = some (v, gr1) ∧ Rel (t + 1) gc1 gr1) ∧
  (∀ (t : Nat) (gc gr : am_G) (a1 : Int32), t < 512 → Rel t gc gr → ∃ (v : Int32) (gc1 gr1 : am_G), fX11_force a1 gc = some (v, gc1) ∧ fX12_force a1 gr = some (v, gr1) ∧ Rel (t + 1) gc1 gr1) ∧
  (∀ (t : Nat) (gc gr : am_G) (a1 a2 a3 a4 a5 : Int32), t < 512 → Rel t gc gr → ∃ (v : Int32) (gc1 gr1 : am_G), fX11_asks a1 a2 a3 a4 a5 gc = some (v, gc1) ∧ fX12_asks a1 a2 a3 a4 a5 gr = some (v, gr1) ∧ Rel (t + 1) gc1 gr1) ∧
  (∀ (t : Nat) (gc gr : am_G) (a1 a2 : Int32), t < 512 → Rel t gc gr → ∃ (v : Int32) (gc1 gr1 : am_G), fX11_weather a1 a2 gc = some (v, gc1) ∧ fX12_weather a1 a2 gr = some (v, gr1) ∧ Rel (t + 1) gc1 gr1) ∧
  (∀ (t : Nat) (gc gr : am_G) (a1 a2 a3 a4 : Int32), t < 512 → Rel t gc gr → ∃ (v : Int32) (gc1 gr1 : am_G), fX11_say a1 a2 a3 a4 gc = some (v, gc1) ∧ fX12_say a1 a2 a3 a4 gr = some (v, gr1) ∧ Rel (t + 1) gc1 gr1) ∧
  (∀ (t : Nat) (gc gr : am_G), t < 512 → Rel t gc gr → ∃ (v : Int32) (gc1 gr1 : am_G), fX11_dawn gc = some (v, gc1) ∧ fX12_dawn gr = some (v, gr1) ∧ Rel (t + 1) gc1 gr1) ∧
  (∀ (t : Nat) (gc gr : am_G), t < 512 → Rel t gc gr → ∃ (v : Int32) (gc1 gr1 : am_G), fX11_undo gc = some (v, gc1) ∧ fX12_undo gr = some (v, gr1) ∧ Rel (t + 1) gc1 gr1) ∧
  (∀ (t : Nat) (gc gr : am_G) (a1 a2 a3 : Int32), t < 512 → Rel t gc gr → ∃ (v : Int32) (gc1 gr1 : am_G), fX11_share a1 a2 a3 gc = some (v, gc1) ∧ fX12_share a1 a2 a3 gr = some (v, gr1) ∧ Rel (t + 1) gc1 gr1) ∧
  (∀ (t : Nat) (gc gr : am_G) (a1 : Int32), t < 512 → Rel t gc gr → ∃ (v : Int32) (gc1 gr1 : am_G), fX11_mean a1 gc = some (v, gc1) ∧ fX12_mean a1 gr = some (v, gr1) ∧ Rel (t + 1) gc1 gr1) ∧
  (∀ (t : Nat) (gc gr : am_G), t < 512 → Rel t gc gr → ∃ (v : Int32) (gc1 gr1 : am_G), fX11_hush gc = some (v, gc1) ∧ fX12_hush gr = some (v, gr1) ∧ Rel (t + 1) gc1 gr1) ∧
  (∀ (t : Nat) (gc gr : am_G) (a1 a2 a3 : Int32), t < 512 → Rel t gc gr → ∃ (v : Int32) (gc1 gr1 : am_G), fX11_saying a1 a2 a3 gc = some (v, gc1) ∧ fX12_saying a1 a2 a3 gr = some (v, gr1) ∧ Rel (t + 1) gc1 gr1) ∧
  (∀ (t : Nat) (gc gr : am_G) (a1 a2 a3 : Int32), t < 512 → Rel t gc gr → ∃ (v : Int32) (gc1 gr1 : am_G), fX11_talk a1 a2 a3 gc = some (v, gc1) ∧ fX12_talk a1 a2 a3 gr = some (v, gr1) ∧ Rel (t + 1) gc1 gr1) ∧
  (∀ (t : Nat) (gc gr : am_G), t < 512 → Rel t gc gr → ∃ (v : Int32) (gc1 gr1 : am_G), fX11_cancel gc = some (v, gc1) ∧ fX12_cancel gr = some (v, gr1) ∧ Rel (t + 1) gc1 gr1) ∧
  (∀ (t : Nat) (gc gr : am_G) (a1 a2 : Int32), t < 512 → Rel t gc gr → ∃ (v : Int32) (gc1 gr1 : am_G), fX11_plan a1 a2 gc = some (v, gc1) ∧ fX12_plan a1 a2 gr = some (v, gr1) ∧ Rel (t + 1) gc1 gr1) ∧
  (∀ (t : Nat) (gc gr : am_G) (a1 a2 a3 : Int32), t < 512 → Rel t gc gr → ∃ (v : Int32) (gc1 gr1 : am_G), fX11_bring a1 a2 a3 gc = some (v, gc1) ∧ fX12_bring a1 a2 a3 gr = some (v, gr1) ∧ Rel (t + 1) gc1 gr1) ∧
  (∀ (t : Nat) (gc gr : am_G) (a1 a2 a3 : Int32), t < 512 → Rel t gc gr → ∃ (v : Int32) (gc1 gr1 : am_G), fX11_threat a1 a2 a3 gc = some (v, gc1) ∧ fX12_threat a1 a2 a3 gr = some (v, gr1) ∧ Rel (t + 1) gc1 gr1) ∧
  (∀ (t : Nat) (gc gr : am_G) (a1 a2 a3 : Int32), t < 512 → Rel t gc gr → ∃ (v : Int32) (gc1 gr1 : am_G), fX11_seen a1 a2 a3 gc = some (v, gc1) ∧ fX12_seen a1 a2 a3 gr = some (v, gr1) ∧ Rel (t + 1) gc1 gr1) ∧
  (∀ (t : Nat) (gc gr : am_G), t < 512 → Rel t gc gr → ∃ (v : Int32) (gc1 gr1 : am_G), fX11_forget gc = some (v, gc1) ∧ fX12_forget gr = some (v, gr1) ∧ Rel (t + 1) gc1 gr1) ∧
  (∀ (t : Nat) (gc gr : am_G) (a1 a2 : Int32), t < 512 → Rel t gc gr → ∃ (v : Int32) (gc1 gr1 : am_G), fX11_holds a1 a2 gc = some (v, gc1) ∧ fX12_holds a1 a2 gr = some (v, gr1) ∧ Rel (t + 1) gc1 gr1) ∧
  (∀ (t : Nat) (gc gr : am_G), t < 512 → Rel t gc gr → ∃ (v : Int32) (gc1 gr1 : am_G), fX11_signs gc = some (v, gc1) ∧ fX12_signs gr = some (v, gr1) ∧ Rel (t + 1) gc1 gr1) ∧
  (∀ (t : Nat) (gc gr : am_G) (a1 a2 : Int32), t < 512 → Rel t gc gr → ∃ (v : Int32) (gc1 gr1 : am_G), fX11_winter a1 a2 gc = some (v, gc1) ∧ fX12_winter a1 a2 gr = some (v, gr1) ∧ Rel (t + 1) gc1 gr1) ∧
  (∀ (t : Nat) (gc gr : am_G) (a1 a2 : Int32), t < 512 → Rel t gc gr → ∃ (v : Int32) (gc1 gr1 : am_G), fX11_drawn a1 a2 gc = some (v, gc1) ∧ fX12_drawn a1 a2 gr = some (v, gr1) ∧ Rel (t + 1) gc1 gr1) ∧
  (∀ (t : Nat) (gc gr : am_G) (a1 : Int32), t < 512 → Rel t gc gr → ∃ (v : Int32) (gc1 gr1 : am_G), fX11_image a1 gc = some (v, gc1) ∧ fX12_image a1 gr = some (v, gr1) ∧ Rel (t + 1) gc1 gr1) ∧
  (∀ (t : Nat) (gc gr : am_G) (a1 : Int32), t < 512 → Rel t gc gr → ∃ (v : Int32) (gc1 gr1 : am_G), fX11_back a1 gc = some (v, gc1) ∧ fX12_back a1 gr = some (v, gr1) ∧ Rel (t + 1) gc1 gr1) ∧
  (∀ (t : Nat) (gc gr : am_G) (a1 : Int32), t < 512 → Rel t gc gr → ∃ (v : Int32) (gc1 gr1 : am_G), fX11_count a1 gc = some (v, gc1) ∧ fX12_count a1 gr = some (v, gr1) ∧ Rel (t + 1) gc1 gr1) ∧
  (∀ (t : Nat) (gc gr : am_G), t < 512 → Rel t gc gr → ∃ (v : Int32) (gc1 gr1 : am_G), fX11_status gc = some (v, gc1) ∧ fX12_status gr = some (v, gr1) ∧ Rel (t + 1) gc1 gr1)
set_option maxRecDepth 100000 in
set_option maxHeartbeats 8000000 in
theorem lw_loop {p : Program} {l : Launch} {e : Env} {s : State} {m : MethodId} {below : List Frame} {meth : Method} {c : Code} {b L : Nat} {xs : Nat → Int32} (hL : L ≤ 3072) (C0 : lw_At p s m meth c b L xs) {σ τ : Nat} {D : va_G} {dA : Nat → ClassId} (hXX : am_X σ τ D dA s) (hOO : am_O σ τ (fun q => s.heap.size ≤ q) s s.heap) {Rel : Nat → am_G → am_G → Prop} (hN : lw_N Rel) (hR : lw_H Rel) {q0 q1 : Nat} : ∀ (n t : Nat), L + 6 ≤ 6 * t + 6 * n → t ≤ 512 → ∀ (gc gr : am_G) (αc αr : Nat → Nat) (H : Heap) (locs : List Loc) (la : Array Slot), Rel t gc gr → αc 0 = q0 → αr 0 = q1 → am_ok zc gc → am_ok zr gr → va_P D am_cl (am_wl dA σ αc gc ++ am_wl dA σ αr gr) H → va_D (fun q => s.heap.size ≤ q) (am_wl dA σ αc gc ++ am_wl dA σ αr gr) → va_S (fun q => s.heap.size ≤ q) s.heap H locs → lv_has la 4 [(0, .ref b), (1, .ref q0), (2, .ref q1), (3, .int (nI (6 * t)))] →
    W p l e room_1 s m #[Value.ref b] below meth c H locs (am_n gc + am_n gr) (am_s gc + am_s gr) (lw_Z below #[Value.ref b] s) (F0 m 18 la []) := by
  obtain ⟨hx, hb, hr, hml, hown, hts, hX, hbl, hlocks, hgv⟩ := id C0
  have htsW : ∀ w ∈ am_W, w.before #[Value.ref b] s = true := fun w hw => hts w (am_W_in hw)
  have hbA : ¬ (fun q : Nat => s.heap.size ≤ q) b := Nat.not_le.mpr hbl
  obtain ⟨h_0, h_1, h_2, h_3, h_4, h_5, h_6, h_7, h_8, h_9, h_10, h_11, h_12, h_13, h_14, h_15, h_16, h_17, h_18, h_19, h_20, h_21, h_22, h_23, h_24, h_25, h_26, h_27, h_28, h_29, h_30, h_31, h_32, h_33, h_34, h_35, h_36, h_37, h_38⟩ := hR
  intro n
  induction n with
  | zero => intro t h1 h2; intros; rename_i gc gr αc αr H locs la hRel e0 e1 okc okr hP hD hS hl; exact lw_end hx hb hr hlocks hL hX hbl hN h2 (by omega) hRel hS hl
  | succ n ih =>
    intro t h1 h2 gc gr αc αr H locs la hRel e0 e1 okc okr hP hD hS hl
    by_cases hend : 6 * t + 6 ≤ L
    · have ht : t < 512 := by omega
      have hnn := hN.1 t gc gr (by omega) hRel
      have hix : ∀ k : Nat, k < 6 → vp_in (nI (6 * t) + nI k) L := fun k hk => by rw [nI_add]; exact vp_in_nI (by omega) (by omega)
      refine lv_iload_n hx hb dL_18 rfl (lv_at hl 3 rfl) ?_
      refine lv_aload_n hx hb dL_19 rfl (lv_at hl 0 rfl) ?_
      refine va_slen hx hb hX hbl hbA hS dL_20 ?_
      refine lv_bipush (v := 6) hx hb dL_21 rfl ?_
      refine lv_isub hx hb dL_23 ?_
      refine lv_icmp_gt (tgt := 1337) hx hb dL_24 (by decide) (fun z => absurd z (lw_go (by omega) hend)) (fun _ => ?_)
      refine lv_aload_n hx hb dL_27 rfl (lv_at hl 0 rfl) ?_
      refine lv_iload_n hx hb dL_28 rfl (lv_at hl 3 rfl) ?_
      refine va_sld hx hb hX hbl hbA hS (vp_in_nI (by omega) (by omega)) dL_29 ?_
      refine lv_bipush (v := 63) hx hb dL_30 rfl ?_
      refine lv_iand hx hb dL_32 ?_
      refine lv_topi (fun x hxx => ?_)
      have next : ∀ (gc1 gr1 : am_G) (αc1 αr1 : Nat → Nat) (H1 : Heap) (locs1 : List Loc), Rel (t + 1) gc1 gr1 → αc1 0 = q0 → αr1 0 = q1 → am_ok zc gc1 → am_ok zr gr1 → va_P D am_cl (am_wl dA σ αc1 gc1 ++ am_wl dA σ αr1 gr1) H1 → va_D (fun q => s.heap.size ≤ q) (am_wl dA σ αc1 gc1 ++ am_wl dA σ αr1 gr1) → va_S (fun q => s.heap.size ≤ q) s.heap H1 locs1 → W p l e room_1 s m #[Value.ref b] below meth c H1 locs1 (am_n gc1 + am_n gr1) (am_s gc1 + am_s gr1) (lw_Z below #[Value.ref b] s) (F0 m 1331 la []) := by
        intro gc1 gr1 αc1 αr1 H1 locs1 r1 r2 r3 r4 r5 r6 r7 r8
        refine lv_iinc (v := nI (6 * (t + 1))) (lv' := [(3, .int (nI (6 * (t + 1)))), (0, .ref b), (1, .ref q0), (2, .ref q1)]) hx hb dL_1331 hl (k := 3) rfl (by rw [show Int32.ofInt 6 = nI 6 from rfl, nI_add]; rfl) (by decide) rfl (fun la1 hl1 => ?_)
        refine lv_goto (tgt := 18) hx hb dL_1334 (by decide) ?_
        exact ih (t + 1) (by omega) (by omega) gc1 gr1 αc1 αr1 H1 locs1 la1 r1 r2 r3 r4 r5 r6 r7 r8 (lv_sub hl1 [1, 2, 3, 0] rfl)

      by_cases c_0 : x = (0 : Int32)
      · refine lv_tableIn (tgt := 204) hx hb dL_33 (by rw [c_0]; decide) (by rw [c_0]; decide) (by rw [c_0]; rfl) (by decide) ?_
        obtain ⟨v, gc1, gr1, e_c, e_r, hRel1⟩ := h_0 t gc gr (xs (nI (6 * t) + nI 1).toNatClampNeg) (xs (nI (6 * t) + nI 2).toNatClampNeg) (xs (nI (6 * t) + nI 3).toNatClampNeg) ht hRel
        have mt_c := tX11_put e_c
        have mt_r := tX12_put e_r
        have k_c : am_n gc ≤ am_n gc1 ∧ am_s gc ≤ am_s gc1 := mt_c.1
        have k_r : am_n gr ≤ am_n gr1 ∧ am_s gr ≤ am_s gr1 := mt_r.1
        have hn1 := hN.1 (t + 1) gc1 gr1 (by omega) hRel1
        refine lv_aload_n hx hb dL_204 rfl (lv_at hl 1 rfl) ?_
        refine lv_aload_n hx hb dL_205 rfl (lv_at hl 0 rfl) ?_
        refine lv_iload_n hx hb dL_206 rfl (lv_at hl 3 rfl) ?_
        refine lv_iconst (v := nI 1) hx hb dL_207 rfl ?_
        refine lv_iadd hx hb dL_208 ?_
        refine va_sld hx hb hX hbl hbA hS (hix 1 (by decide)) dL_209 ?_
        refine lv_aload_n hx hb dL_210 rfl (lv_at hl 0 rfl) ?_
        refine lv_iload_n hx hb dL_211 rfl (lv_at hl 3 rfl) ?_
        refine lv_iconst (v := nI 2) hx hb dL_212 rfl ?_
        refine lv_iadd hx hb dL_213 ?_
        refine va_sld hx hb hX hbl hbA hS (hix 2 (by decide)) dL_214 ?_
        refine lv_aload_n hx hb dL_215 rfl (lv_at hl 0 rfl) ?_
        refine lv_iload_n hx hb dL_216 rfl (lv_at hl 3 rfl) ?_
        refine lv_iconst (v := nI 3) hx hb dL_217 rfl ?_
        refine lv_iadd hx hb dL_218 ?_
        refine va_sld hx hb hX hbl hbA hS (hix 3 (by decide)) dL_219 ?_
        refine lw_call (Z := zc) (g1 := gc1) (v := v) (as := [.int (xs (nI (6 * t) + nI 1).toNatClampNeg), .int (xs (nI (6 * t) + nI 2).toNatClampNeg), .int (xs (nI (6 * t) + nI 3).toNatClampNeg)]) (rest := []) (ci := 11) (len := 17) htsW hx hb hml hown hXX hOO mt_c okc hP hD hS hl mo_X11_put (am_mem2 67 (by decide +kernel)) ki_X11_put kv_X11_put (fun _ => rfl) ⟨trivial, trivial, trivial, trivial⟩ (okc.2.1 0 _ rfl) (by decide) rfl (Nat.le_of_ble_eq_true rfl) (by decide) (by omega) (by omega) dL_220 _ (by rw [e0]; rfl) (fun αc1 H locs okc1 hP hD hS e2 => ?_)
        refine lv_aload_n hx hb dL_223 rfl (lv_at hl 2 rfl) ?_
        refine lv_aload_n hx hb dL_224 rfl (lv_at hl 0 rfl) ?_
        refine lv_iload_n hx hb dL_225 rfl (lv_at hl 3 rfl) ?_
        refine lv_iconst (v := nI 1) hx hb dL_226 rfl ?_
        refine lv_iadd hx hb dL_227 ?_
        refine va_sld hx hb hX hbl hbA hS (hix 1 (by decide)) dL_228 ?_
        refine lv_aload_n hx hb dL_229 rfl (lv_at hl 0 rfl) ?_
        refine lv_iload_n hx hb dL_230 rfl (lv_at hl 3 rfl) ?_
        refine lv_iconst (v := nI 2) hx hb dL_231 rfl ?_
        refine lv_iadd hx hb dL_232 ?_
        refine va_sld hx hb hX hbl hbA hS (hix 2 (by decide)) dL_233 ?_
        refine lv_aload_n hx hb dL_234 rfl (lv_at hl 0 rfl) ?_
        refine lv_iload_n hx hb dL_235 rfl (lv_at hl 3 rfl) ?_
        refine lv_iconst (v := nI 3) hx hb dL_236 rfl ?_
        refine lv_iadd hx hb dL_237 ?_
        refine va_sld hx hb hX hbl hbA hS (hix 3 (by decide)) dL_238 ?_
        refine lw_call (Z := zr) (g1 := gr1) (v := v) (as := [.int (xs (nI (6 * t) + nI 1).toNatClampNeg), .int (xs (nI (6 * t) + nI 2).toNatClampNeg), .int (xs (nI (6 * t) + nI 3).toNatClampNeg)]) (rest := [.int v]) (ci := 12) (len := 64) htsW hx hb hml hown hXX hOO mt_r okr (lw_swP hP) (lw_swD hD) hS hl mo_X12_put (am_mem6 18 (by decide +kernel)) ki_X12_put kv_X12_put (fun _ => rfl) ⟨trivial, trivial, trivial, trivial⟩ (okr.2.1 0 _ rfl) (by decide) rfl (Nat.le_of_ble_eq_true rfl) (by decide) (by omega) (by omega) dL_239 _ (by rw [e1]; rfl) (fun αr1 H locs okr1 hP hD hS e3 => ?_)
        refine lv_icmp_eq (tgt := 1331) hx hb dL_242 (by decide) (fun _ => ?_) (fun z => absurd rfl z)
        refine W.cs (cells' := am_n gc1 + am_n gr1) (slots' := am_s gc1 + am_s gr1) (by omega) (by omega) ?_
        exact next gc1 gr1 αc1 αr1 H locs hRel1 (e2.trans e0) (e3.trans e1) okc1 okr1 (lw_swP hP) (lw_swD hD) hS
      by_cases c_1 : x = (1 : Int32)
      · refine lv_tableIn (tgt := 247) hx hb dL_33 (by rw [c_1]; decide) (by rw [c_1]; decide) (by rw [c_1]; rfl) (by decide) ?_
        obtain ⟨v, gc1, gr1, e_c, e_r, hRel1⟩ := h_1 t gc gr (xs (nI (6 * t) + nI 1).toNatClampNeg) (xs (nI (6 * t) + nI 2).toNatClampNeg) ht hRel
        have mt_c := tX11_of e_c
        have mt_r := tX12_of e_r
        have k_c : am_n gc ≤ am_n gc1 ∧ am_s gc ≤ am_s gc1 := mt_c.1
        have k_r : am_n gr ≤ am_n gr1 ∧ am_s gr ≤ am_s gr1 := mt_r.1
        have hn1 := hN.1 (t + 1) gc1 gr1 (by omega) hRel1
        refine lv_aload_n hx hb dL_247 rfl (lv_at hl 1 rfl) ?_
        refine lv_aload_n hx hb dL_248 rfl (lv_at hl 0 rfl) ?_
        refine lv_iload_n hx hb dL_249 rfl (lv_at hl 3 rfl) ?_
        refine lv_iconst (v := nI 1) hx hb dL_250 rfl ?_
        refine lv_iadd hx hb dL_251 ?_
        refine va_sld hx hb hX hbl hbA hS (hix 1 (by decide)) dL_252 ?_
        refine lv_aload_n hx hb dL_253 rfl (lv_at hl 0 rfl) ?_
        refine lv_iload_n hx hb dL_254 rfl (lv_at hl 3 rfl) ?_
        refine lv_iconst (v := nI 2) hx hb dL_255 rfl ?_
        refine lv_iadd hx hb dL_256 ?_
        refine va_sld hx hb hX hbl hbA hS (hix 2 (by decide)) dL_257 ?_
        refine lw_call (Z := zc) (g1 := gc1) (v := v) (as := [.int (xs (nI (6 * t) + nI 1).toNatClampNeg), .int (xs (nI (6 * t) + nI 2).toNatClampNeg)]) (rest := []) (ci := 11) (len := 17) htsW hx hb hml hown hXX hOO mt_c okc hP hD hS hl mo_X11_of (am_mem2 96 (by decide +kernel)) ki_X11_of kv_X11_of (fun _ => rfl) ⟨trivial, trivial, trivial⟩ (okc.2.1 0 _ rfl) (by decide) rfl (Nat.le_of_ble_eq_true rfl) (by decide) (by omega) (by omega) dL_258 _ (by rw [e0]; rfl) (fun αc1 H locs okc1 hP hD hS e2 => ?_)
        refine lv_aload_n hx hb dL_261 rfl (lv_at hl 2 rfl) ?_
        refine lv_aload_n hx hb dL_262 rfl (lv_at hl 0 rfl) ?_
        refine lv_iload_n hx hb dL_263 rfl (lv_at hl 3 rfl) ?_
        refine lv_iconst (v := nI 1) hx hb dL_264 rfl ?_
        refine lv_iadd hx hb dL_265 ?_
        refine va_sld hx hb hX hbl hbA hS (hix 1 (by decide)) dL_266 ?_
        refine lv_aload_n hx hb dL_267 rfl (lv_at hl 0 rfl) ?_
        refine lv_iload_n hx hb dL_268 rfl (lv_at hl 3 rfl) ?_
        refine lv_iconst (v := nI 2) hx hb dL_269 rfl ?_
        refine lv_iadd hx hb dL_270 ?_
        refine va_sld hx hb hX hbl hbA hS (hix 2 (by decide)) dL_271 ?_
        refine lw_call (Z := zr) (g1 := gr1) (v := v) (as := [.int (xs (nI (6 * t) + nI 1).toNatClampNeg), .int (xs (nI (6 * t) + nI 2).toNatClampNeg)]) (rest := [.int v]) (ci := 12) (len := 64) htsW hx hb hml hown hXX hOO mt_r okr (lw_swP hP) (lw_swD hD) hS hl mo_X12_of (am_mem6 37 (by decide +kernel)) ki_X12_of kv_X12_of (fun _ => rfl) ⟨trivial, trivial, trivial⟩ (okr.2.1 0 _ rfl) (by decide) rfl (Nat.le_of_ble_eq_true rfl) (by decide) (by omega) (by omega) dL_272 _ (by rw [e1]; rfl) (fun αr1 H locs okr1 hP hD hS e3 => ?_)
        refine lv_icmp_eq (tgt := 1331) hx hb dL_275 (by decide) (fun _ => ?_) (fun z => absurd rfl z)
        refine W.cs (cells' := am_n gc1 + am_n gr1) (slots' := am_s gc1 + am_s gr1) (by omega) (by omega) ?_
        exact next gc1 gr1 αc1 αr1 H locs hRel1 (e2.trans e0) (e3.trans e1) okc1 okr1 (lw_swP hP) (lw_swD hD) hS
      by_cases c_2 : x = (2 : Int32)
      · refine lv_tableIn (tgt := 280) hx hb dL_33 (by rw [c_2]; decide) (by rw [c_2]; decide) (by rw [c_2]; rfl) (by decide) ?_
        obtain ⟨v, gc1, gr1, e_c, e_r, hRel1⟩ := h_2 t gc gr (xs (nI (6 * t) + nI 1).toNatClampNeg) (xs (nI (6 * t) + nI 2).toNatClampNeg) (xs (nI (6 * t) + nI 3).toNatClampNeg) ht hRel
        have mt_c := tX11_word e_c
        have mt_r := tX12_word e_r
        have k_c : am_n gc ≤ am_n gc1 ∧ am_s gc ≤ am_s gc1 := mt_c.1
        have k_r : am_n gr ≤ am_n gr1 ∧ am_s gr ≤ am_s gr1 := mt_r.1
        have hn1 := hN.1 (t + 1) gc1 gr1 (by omega) hRel1
        refine lv_aload_n hx hb dL_280 rfl (lv_at hl 1 rfl) ?_
        refine lv_aload_n hx hb dL_281 rfl (lv_at hl 0 rfl) ?_
        refine lv_iload_n hx hb dL_282 rfl (lv_at hl 3 rfl) ?_
        refine lv_iconst (v := nI 1) hx hb dL_283 rfl ?_
        refine lv_iadd hx hb dL_284 ?_
        refine va_sld hx hb hX hbl hbA hS (hix 1 (by decide)) dL_285 ?_
        refine lv_aload_n hx hb dL_286 rfl (lv_at hl 0 rfl) ?_
        refine lv_iload_n hx hb dL_287 rfl (lv_at hl 3 rfl) ?_
        refine lv_iconst (v := nI 2) hx hb dL_288 rfl ?_
        refine lv_iadd hx hb dL_289 ?_
        refine va_sld hx hb hX hbl hbA hS (hix 2 (by decide)) dL_290 ?_
        refine lv_aload_n hx hb dL_291 rfl (lv_at hl 0 rfl) ?_
        refine lv_iload_n hx hb dL_292 rfl (lv_at hl 3 rfl) ?_
        refine lv_iconst (v := nI 3) hx hb dL_293 rfl ?_
        refine lv_iadd hx hb dL_294 ?_
        refine va_sld hx hb hX hbl hbA hS (hix 3 (by decide)) dL_295 ?_
        refine lw_call (Z := zc) (g1 := gc1) (v := v) (as := [.int (xs (nI (6 * t) + nI 1).toNatClampNeg), .int (xs (nI (6 * t) + nI 2).toNatClampNeg), .int (xs (nI (6 * t) + nI 3).toNatClampNeg)]) (rest := []) (ci := 11) (len := 17) htsW hx hb hml hown hXX hOO mt_c okc hP hD hS hl mo_X11_word (am_mem2 100 (by decide +kernel)) ki_X11_word kv_X11_word (fun _ => rfl) ⟨trivial, trivial, trivial, trivial⟩ (okc.2.1 0 _ rfl) (by decide) rfl (Nat.le_of_ble_eq_true rfl) (by decide) (by omega) (by omega) dL_296 _ (by rw [e0]; rfl) (fun αc1 H locs okc1 hP hD hS e2 => ?_)
        refine lv_aload_n hx hb dL_299 rfl (lv_at hl 2 rfl) ?_
        refine lv_aload_n hx hb dL_300 rfl (lv_at hl 0 rfl) ?_
        refine lv_iload_n hx hb dL_301 rfl (lv_at hl 3 rfl) ?_
        refine lv_iconst (v := nI 1) hx hb dL_302 rfl ?_
        refine lv_iadd hx hb dL_303 ?_
        refine va_sld hx hb hX hbl hbA hS (hix 1 (by decide)) dL_304 ?_
        refine lv_aload_n hx hb dL_305 rfl (lv_at hl 0 rfl) ?_
        refine lv_iload_n hx hb dL_306 rfl (lv_at hl 3 rfl) ?_
        refine lv_iconst (v := nI 2) hx hb dL_307 rfl ?_
        refine lv_iadd hx hb dL_308 ?_
        refine va_sld hx hb hX hbl hbA hS (hix 2 (by decide)) dL_309 ?_
        refine lv_aload_n hx hb dL_310 rfl (lv_at hl 0 rfl) ?_
        refine lv_iload_n hx hb dL_311 rfl (lv_at hl 3 rfl) ?_
        refine lv_iconst (v := nI 3) hx hb dL_312 rfl ?_
        refine lv_iadd hx hb dL_313 ?_
        refine va_sld hx hb hX hbl hbA hS (hix 3 (by decide)) dL_314 ?_
        refine lw_call (Z := zr) (g1 := gr1) (v := v) (as := [.int (xs (nI (6 * t) + nI 1).toNatClampNeg), .int (xs (nI (6 * t) + nI 2).toNatClampNeg), .int (xs (nI (6 * t) + nI 3).toNatClampNeg)]) (rest := [.int v]) (ci := 12) (len := 64) htsW hx hb hml hown hXX hOO mt_r okr (lw_swP hP) (lw_swD hD) hS hl mo_X12_word (am_mem6 45 (by decide +kernel)) ki_X12_word kv_X12_word (fun _ => rfl) ⟨trivial, trivial, trivial, trivial⟩ (okr.2.1 0 _ rfl) (by decide) rfl (Nat.le_of_ble_eq_true rfl) (by decide) (by omega) (by omega) dL_315 _ (by rw [e1]; rfl) (fun αr1 H locs okr1 hP hD hS e3 => ?_)
        refine lv_icmp_eq (tgt := 1331) hx hb dL_318 (by decide) (fun _ => ?_) (fun z => absurd rfl z)
        refine W.cs (cells' := am_n gc1 + am_n gr1) (slots' := am_s gc1 + am_s gr1) (by omega) (by omega) ?_
        exact next gc1 gr1 αc1 αr1 H locs hRel1 (e2.trans e0) (e3.trans e1) okc1 okr1 (lw_swP hP) (lw_swD hD) hS
      by_cases c_3 : x = (3 : Int32)
      · refine lv_tableIn (tgt := 323) hx hb dL_33 (by rw [c_3]; decide) (by rw [c_3]; decide) (by rw [c_3]; rfl) (by decide) ?_
        obtain ⟨v, gc1, gr1, e_c, e_r, hRel1⟩ := h_3 t gc gr (xs (nI (6 * t) + nI 1).toNatClampNeg) (xs (nI (6 * t) + nI 2).toNatClampNeg) ht hRel
        have mt_c := tX11_at e_c
        have mt_r := tX12_at e_r
        have k_c : am_n gc ≤ am_n gc1 ∧ am_s gc ≤ am_s gc1 := mt_c.1
        have k_r : am_n gr ≤ am_n gr1 ∧ am_s gr ≤ am_s gr1 := mt_r.1
        have hn1 := hN.1 (t + 1) gc1 gr1 (by omega) hRel1
        refine lv_aload_n hx hb dL_323 rfl (lv_at hl 1 rfl) ?_
        refine lv_aload_n hx hb dL_324 rfl (lv_at hl 0 rfl) ?_
        refine lv_iload_n hx hb dL_325 rfl (lv_at hl 3 rfl) ?_
        refine lv_iconst (v := nI 1) hx hb dL_326 rfl ?_
        refine lv_iadd hx hb dL_327 ?_
        refine va_sld hx hb hX hbl hbA hS (hix 1 (by decide)) dL_328 ?_
        refine lv_aload_n hx hb dL_329 rfl (lv_at hl 0 rfl) ?_
        refine lv_iload_n hx hb dL_330 rfl (lv_at hl 3 rfl) ?_
        refine lv_iconst (v := nI 2) hx hb dL_331 rfl ?_
        refine lv_iadd hx hb dL_332 ?_
        refine va_sld hx hb hX hbl hbA hS (hix 2 (by decide)) dL_333 ?_
        refine lw_call (Z := zc) (g1 := gc1) (v := v) (as := [.int (xs (nI (6 * t) + nI 1).toNatClampNeg), .int (xs (nI (6 * t) + nI 2).toNatClampNeg)]) (rest := []) (ci := 11) (len := 17) htsW hx hb hml hown hXX hOO mt_c okc hP hD hS hl mo_X11_at (am_mem2 116 (by decide +kernel)) ki_X11_at kv_X11_at (fun _ => rfl) ⟨trivial, trivial, trivial⟩ (okc.2.1 0 _ rfl) (by decide) rfl (Nat.le_of_ble_eq_true rfl) (by decide) (by omega) (by omega) dL_334 _ (by rw [e0]; rfl) (fun αc1 H locs okc1 hP hD hS e2 => ?_)
        refine lv_aload_n hx hb dL_337 rfl (lv_at hl 2 rfl) ?_
        refine lv_aload_n hx hb dL_338 rfl (lv_at hl 0 rfl) ?_
        refine lv_iload_n hx hb dL_339 rfl (lv_at hl 3 rfl) ?_
        refine lv_iconst (v := nI 1) hx hb dL_340 rfl ?_
        refine lv_iadd hx hb dL_341 ?_
        refine va_sld hx hb hX hbl hbA hS (hix 1 (by decide)) dL_342 ?_
        refine lv_aload_n hx hb dL_343 rfl (lv_at hl 0 rfl) ?_
        refine lv_iload_n hx hb dL_344 rfl (lv_at hl 3 rfl) ?_
        refine lv_iconst (v := nI 2) hx hb dL_345 rfl ?_
        refine lv_iadd hx hb dL_346 ?_
        refine va_sld hx hb hX hbl hbA hS (hix 2 (by decide)) dL_347 ?_
        refine lw_call (Z := zr) (g1 := gr1) (v := v) (as := [.int (xs (nI (6 * t) + nI 1).toNatClampNeg), .int (xs (nI (6 * t) + nI 2).toNatClampNeg)]) (rest := [.int v]) (ci := 12) (len := 64) htsW hx hb hml hown hXX hOO mt_r okr (lw_swP hP) (lw_swD hD) hS hl mo_X12_at (am_mem6 53 (by decide +kernel)) ki_X12_at kv_X12_at (fun _ => rfl) ⟨trivial, trivial, trivial⟩ (okr.2.1 0 _ rfl) (by decide) rfl (Nat.le_of_ble_eq_true rfl) (by decide) (by omega) (by omega) dL_348 _ (by rw [e1]; rfl) (fun αr1 H locs okr1 hP hD hS e3 => ?_)
        refine lv_icmp_eq (tgt := 1331) hx hb dL_351 (by decide) (fun _ => ?_) (fun z => absurd rfl z)
        refine W.cs (cells' := am_n gc1 + am_n gr1) (slots' := am_s gc1 + am_s gr1) (by omega) (by omega) ?_
        exact next gc1 gr1 αc1 αr1 H locs hRel1 (e2.trans e0) (e3.trans e1) okc1 okr1 (lw_swP hP) (lw_swD hD) hS
      by_cases c_4 : x = (4 : Int32)
      · refine lv_tableIn (tgt := 356) hx hb dL_33 (by rw [c_4]; decide) (by rw [c_4]; decide) (by rw [c_4]; rfl) (by decide) ?_
        obtain ⟨v, gc1, gr1, e_c, e_r, hRel1⟩ := h_4 t gc gr (xs (nI (6 * t) + nI 1).toNatClampNeg) (xs (nI (6 * t) + nI 2).toNatClampNeg) ht hRel
        have mt_c := tX11_often e_c
        have mt_r := tX12_often e_r
        have k_c : am_n gc ≤ am_n gc1 ∧ am_s gc ≤ am_s gc1 := mt_c.1
        have k_r : am_n gr ≤ am_n gr1 ∧ am_s gr ≤ am_s gr1 := mt_r.1
        have hn1 := hN.1 (t + 1) gc1 gr1 (by omega) hRel1
        refine lv_aload_n hx hb dL_356 rfl (lv_at hl 1 rfl) ?_
        refine lv_aload_n hx hb dL_357 rfl (lv_at hl 0 rfl) ?_
        refine lv_iload_n hx hb dL_358 rfl (lv_at hl 3 rfl) ?_
        refine lv_iconst (v := nI 1) hx hb dL_359 rfl ?_
        refine lv_iadd hx hb dL_360 ?_
        refine va_sld hx hb hX hbl hbA hS (hix 1 (by decide)) dL_361 ?_
        refine lv_aload_n hx hb dL_362 rfl (lv_at hl 0 rfl) ?_
        refine lv_iload_n hx hb dL_363 rfl (lv_at hl 3 rfl) ?_
        refine lv_iconst (v := nI 2) hx hb dL_364 rfl ?_
        refine lv_iadd hx hb dL_365 ?_
        refine va_sld hx hb hX hbl hbA hS (hix 2 (by decide)) dL_366 ?_
        refine lw_call (Z := zc) (g1 := gc1) (v := v) (as := [.int (xs (nI (6 * t) + nI 1).toNatClampNeg), .int (xs (nI (6 * t) + nI 2).toNatClampNeg)]) (rest := []) (ci := 11) (len := 17) htsW hx hb hml hown hXX hOO mt_c okc hP hD hS hl mo_X11_often (am_mem2 124 (by decide +kernel)) ki_X11_often kv_X11_often (fun _ => rfl) ⟨trivial, trivial, trivial⟩ (okc.2.1 0 _ rfl) (by decide) rfl (Nat.le_of_ble_eq_true rfl) (by decide) (by omega) (by omega) dL_367 _ (by rw [e0]; rfl) (fun αc1 H locs okc1 hP hD hS e2 => ?_)
        refine lv_aload_n hx hb dL_370 rfl (lv_at hl 2 rfl) ?_
        refine lv_aload_n hx hb dL_371 rfl (lv_at hl 0 rfl) ?_
        refine lv_iload_n hx hb dL_372 rfl (lv_at hl 3 rfl) ?_
        refine lv_iconst (v := nI 1) hx hb dL_373 rfl ?_
        refine lv_iadd hx hb dL_374 ?_
        refine va_sld hx hb hX hbl hbA hS (hix 1 (by decide)) dL_375 ?_
        refine lv_aload_n hx hb dL_376 rfl (lv_at hl 0 rfl) ?_
        refine lv_iload_n hx hb dL_377 rfl (lv_at hl 3 rfl) ?_
        refine lv_iconst (v := nI 2) hx hb dL_378 rfl ?_
        refine lv_iadd hx hb dL_379 ?_
        refine va_sld hx hb hX hbl hbA hS (hix 2 (by decide)) dL_380 ?_
        refine lw_call (Z := zr) (g1 := gr1) (v := v) (as := [.int (xs (nI (6 * t) + nI 1).toNatClampNeg), .int (xs (nI (6 * t) + nI 2).toNatClampNeg)]) (rest := [.int v]) (ci := 12) (len := 64) htsW hx hb hml hown hXX hOO mt_r okr (lw_swP hP) (lw_swD hD) hS hl mo_X12_often (am_mem6 66 (by decide +kernel)) ki_X12_often kv_X12_often (fun _ => rfl) ⟨trivial, trivial, trivial⟩ (okr.2.1 0 _ rfl) (by decide) rfl (Nat.le_of_ble_eq_true rfl) (by decide) (by omega) (by omega) dL_381 _ (by rw [e1]; rfl) (fun αr1 H locs okr1 hP hD hS e3 => ?_)
        refine lv_icmp_eq (tgt := 1331) hx hb dL_384 (by decide) (fun _ => ?_) (fun z => absurd rfl z)
        refine W.cs (cells' := am_n gc1 + am_n gr1) (slots' := am_s gc1 + am_s gr1) (by omega) (by omega) ?_
        exact next gc1 gr1 αc1 αr1 H locs hRel1 (e2.trans e0) (e3.trans e1) okc1 okr1 (lw_swP hP) (lw_swD hD) hS
      by_cases c_5 : x = (5 : Int32)
      · refine lv_tableIn (tgt := 389) hx hb dL_33 (by rw [c_5]; decide) (by rw [c_5]; decide) (by rw [c_5]; rfl) (by decide) ?_
        obtain ⟨v, gc1, gr1, e_c, e_r, hRel1⟩ := h_5 t gc gr (xs (nI (6 * t) + nI 1).toNatClampNeg) (xs (nI (6 * t) + nI 2).toNatClampNeg) ht hRel
        have mt_c := tX11_terms e_c
        have mt_r := tX12_terms e_r
        have k_c : am_n gc ≤ am_n gc1 ∧ am_s gc ≤ am_s gc1 := mt_c.1
        have k_r : am_n gr ≤ am_n gr1 ∧ am_s gr ≤ am_s gr1 := mt_r.1
        have hn1 := hN.1 (t + 1) gc1 gr1 (by omega) hRel1
        refine lv_aload_n hx hb dL_389 rfl (lv_at hl 1 rfl) ?_
        refine lv_aload_n hx hb dL_390 rfl (lv_at hl 0 rfl) ?_
        refine lv_iload_n hx hb dL_391 rfl (lv_at hl 3 rfl) ?_
        refine lv_iconst (v := nI 1) hx hb dL_392 rfl ?_
        refine lv_iadd hx hb dL_393 ?_
        refine va_sld hx hb hX hbl hbA hS (hix 1 (by decide)) dL_394 ?_
        refine lv_aload_n hx hb dL_395 rfl (lv_at hl 0 rfl) ?_
        refine lv_iload_n hx hb dL_396 rfl (lv_at hl 3 rfl) ?_
        refine lv_iconst (v := nI 2) hx hb dL_397 rfl ?_
        refine lv_iadd hx hb dL_398 ?_
        refine va_sld hx hb hX hbl hbA hS (hix 2 (by decide)) dL_399 ?_
        refine lw_call (Z := zc) (g1 := gc1) (v := v) (as := [.int (xs (nI (6 * t) + nI 1).toNatClampNeg), .int (xs (nI (6 * t) + nI 2).toNatClampNeg)]) (rest := []) (ci := 11) (len := 17) htsW hx hb hml hown hXX hOO mt_c okc hP hD hS hl mo_X11_terms (am_mem2 128 (by decide +kernel)) ki_X11_terms kv_X11_terms (fun _ => rfl) ⟨trivial, trivial, trivial⟩ (okc.2.1 0 _ rfl) (by decide) rfl (Nat.le_of_ble_eq_true rfl) (by decide) (by omega) (by omega) dL_400 _ (by rw [e0]; rfl) (fun αc1 H locs okc1 hP hD hS e2 => ?_)
        refine lv_aload_n hx hb dL_403 rfl (lv_at hl 2 rfl) ?_
        refine lv_aload_n hx hb dL_404 rfl (lv_at hl 0 rfl) ?_
        refine lv_iload_n hx hb dL_405 rfl (lv_at hl 3 rfl) ?_
        refine lv_iconst (v := nI 1) hx hb dL_406 rfl ?_
        refine lv_iadd hx hb dL_407 ?_
        refine va_sld hx hb hX hbl hbA hS (hix 1 (by decide)) dL_408 ?_
        refine lv_aload_n hx hb dL_409 rfl (lv_at hl 0 rfl) ?_
        refine lv_iload_n hx hb dL_410 rfl (lv_at hl 3 rfl) ?_
        refine lv_iconst (v := nI 2) hx hb dL_411 rfl ?_
        refine lv_iadd hx hb dL_412 ?_
        refine va_sld hx hb hX hbl hbA hS (hix 2 (by decide)) dL_413 ?_
        refine lw_call (Z := zr) (g1 := gr1) (v := v) (as := [.int (xs (nI (6 * t) + nI 1).toNatClampNeg), .int (xs (nI (6 * t) + nI 2).toNatClampNeg)]) (rest := [.int v]) (ci := 12) (len := 64) htsW hx hb hml hown hXX hOO mt_r okr (lw_swP hP) (lw_swD hD) hS hl mo_X12_terms (am_mem6 71 (by decide +kernel)) ki_X12_terms kv_X12_terms (fun _ => rfl) ⟨trivial, trivial, trivial⟩ (okr.2.1 0 _ rfl) (by decide) rfl (Nat.le_of_ble_eq_true rfl) (by decide) (by omega) (by omega) dL_414 _ (by rw [e1]; rfl) (fun αr1 H locs okr1 hP hD hS e3 => ?_)
        refine lv_icmp_eq (tgt := 1331) hx hb dL_417 (by decide) (fun _ => ?_) (fun z => absurd rfl z)
        refine W.cs (cells' := am_n gc1 + am_n gr1) (slots' := am_s gc1 + am_s gr1) (by omega) (by omega) ?_
        exact next gc1 gr1 αc1 αr1 H locs hRel1 (e2.trans e0) (e3.trans e1) okc1 okr1 (lw_swP hP) (lw_swD hD) hS
      by_cases c_6 : x = (6 : Int32)
      · refine lv_tableIn (tgt := 422) hx hb dL_33 (by rw [c_6]; decide) (by rw [c_6]; decide) (by rw [c_6]; rfl) (by decide) ?_
        obtain ⟨v, gc1, gr1, e_c, e_r, hRel1⟩ := h_6 t gc gr (xs (nI (6 * t) + nI 1).toNatClampNeg) (xs (nI (6 * t) + nI 2).toNatClampNeg) (xs (nI (6 * t) + nI 3).toNatClampNeg) (xs (nI (6 * t) + nI 4).toNatClampNeg) (xs (nI (6 * t) + nI 5).toNatClampNeg) ht hRel
        have mt_c := tX11_feed e_c
        have mt_r := tX12_feed e_r
        have k_c : am_n gc ≤ am_n gc1 ∧ am_s gc ≤ am_s gc1 := mt_c.1
        have k_r : am_n gr ≤ am_n gr1 ∧ am_s gr ≤ am_s gr1 := mt_r.1
        have hn1 := hN.1 (t + 1) gc1 gr1 (by omega) hRel1
        refine lv_aload_n hx hb dL_422 rfl (lv_at hl 1 rfl) ?_
        refine lv_aload_n hx hb dL_423 rfl (lv_at hl 0 rfl) ?_
        refine lv_iload_n hx hb dL_424 rfl (lv_at hl 3 rfl) ?_
        refine lv_iconst (v := nI 1) hx hb dL_425 rfl ?_
        refine lv_iadd hx hb dL_426 ?_
        refine va_sld hx hb hX hbl hbA hS (hix 1 (by decide)) dL_427 ?_
        refine lv_aload_n hx hb dL_428 rfl (lv_at hl 0 rfl) ?_
        refine lv_iload_n hx hb dL_429 rfl (lv_at hl 3 rfl) ?_
        refine lv_iconst (v := nI 2) hx hb dL_430 rfl ?_
        refine lv_iadd hx hb dL_431 ?_
        refine va_sld hx hb hX hbl hbA hS (hix 2 (by decide)) dL_432 ?_
        refine lv_aload_n hx hb dL_433 rfl (lv_at hl 0 rfl) ?_
        refine lv_iload_n hx hb dL_434 rfl (lv_at hl 3 rfl) ?_
        refine lv_iconst (v := nI 3) hx hb dL_435 rfl ?_
        refine lv_iadd hx hb dL_436 ?_
        refine va_sld hx hb hX hbl hbA hS (hix 3 (by decide)) dL_437 ?_
        refine lv_aload_n hx hb dL_438 rfl (lv_at hl 0 rfl) ?_
        refine lv_iload_n hx hb dL_439 rfl (lv_at hl 3 rfl) ?_
        refine lv_iconst (v := nI 4) hx hb dL_440 rfl ?_
        refine lv_iadd hx hb dL_441 ?_
        refine va_sld hx hb hX hbl hbA hS (hix 4 (by decide)) dL_442 ?_
        refine lv_aload_n hx hb dL_443 rfl (lv_at hl 0 rfl) ?_
        refine lv_iload_n hx hb dL_444 rfl (lv_at hl 3 rfl) ?_
        refine lv_iconst (v := nI 5) hx hb dL_445 rfl ?_
        refine lv_iadd hx hb dL_446 ?_
        refine va_sld hx hb hX hbl hbA hS (hix 5 (by decide)) dL_447 ?_
        refine lw_call (Z := zc) (g1 := gc1) (v := v) (as := [.int (xs (nI (6 * t) + nI 1).toNatClampNeg), .int (xs (nI (6 * t) + nI 2).toNatClampNeg), .int (xs (nI (6 * t) + nI 3).toNatClampNeg), .int (xs (nI (6 * t) + nI 4).toNatClampNeg), .int (xs (nI (6 * t) + nI 5).toNatClampNeg)]) (rest := []) (ci := 11) (len := 17) htsW hx hb hml hown hXX hOO mt_c okc hP hD hS hl mo_X11_feed (am_mem2 132 (by decide +kernel)) ki_X11_feed kv_X11_feed (fun _ => rfl) ⟨trivial, trivial, trivial, trivial, trivial, trivial⟩ (okc.2.1 0 _ rfl) (by decide) rfl (Nat.le_of_ble_eq_true rfl) (by decide) (by omega) (by omega) dL_448 _ (by rw [e0]; rfl) (fun αc1 H locs okc1 hP hD hS e2 => ?_)
        refine lv_aload_n hx hb dL_451 rfl (lv_at hl 2 rfl) ?_
        refine lv_aload_n hx hb dL_452 rfl (lv_at hl 0 rfl) ?_
        refine lv_iload_n hx hb dL_453 rfl (lv_at hl 3 rfl) ?_
        refine lv_iconst (v := nI 1) hx hb dL_454 rfl ?_
        refine lv_iadd hx hb dL_455 ?_
        refine va_sld hx hb hX hbl hbA hS (hix 1 (by decide)) dL_456 ?_
        refine lv_aload_n hx hb dL_457 rfl (lv_at hl 0 rfl) ?_
        refine lv_iload_n hx hb dL_458 rfl (lv_at hl 3 rfl) ?_
        refine lv_iconst (v := nI 2) hx hb dL_459 rfl ?_
        refine lv_iadd hx hb dL_460 ?_
        refine va_sld hx hb hX hbl hbA hS (hix 2 (by decide)) dL_461 ?_
        refine lv_aload_n hx hb dL_462 rfl (lv_at hl 0 rfl) ?_
        refine lv_iload_n hx hb dL_463 rfl (lv_at hl 3 rfl) ?_
        refine lv_iconst (v := nI 3) hx hb dL_464 rfl ?_
        refine lv_iadd hx hb dL_465 ?_
        refine va_sld hx hb hX hbl hbA hS (hix 3 (by decide)) dL_466 ?_
        refine lv_aload_n hx hb dL_467 rfl (lv_at hl 0 rfl) ?_
        refine lv_iload_n hx hb dL_468 rfl (lv_at hl 3 rfl) ?_
        refine lv_iconst (v := nI 4) hx hb dL_469 rfl ?_
        refine lv_iadd hx hb dL_470 ?_
        refine va_sld hx hb hX hbl hbA hS (hix 4 (by decide)) dL_471 ?_
        refine lv_aload_n hx hb dL_472 rfl (lv_at hl 0 rfl) ?_
        refine lv_iload_n hx hb dL_473 rfl (lv_at hl 3 rfl) ?_
        refine lv_iconst (v := nI 5) hx hb dL_474 rfl ?_
        refine lv_iadd hx hb dL_475 ?_
        refine va_sld hx hb hX hbl hbA hS (hix 5 (by decide)) dL_476 ?_
        refine lw_call (Z := zr) (g1 := gr1) (v := v) (as := [.int (xs (nI (6 * t) + nI 1).toNatClampNeg), .int (xs (nI (6 * t) + nI 2).toNatClampNeg), .int (xs (nI (6 * t) + nI 3).toNatClampNeg), .int (xs (nI (6 * t) + nI 4).toNatClampNeg), .int (xs (nI (6 * t) + nI 5).toNatClampNeg)]) (rest := [.int v]) (ci := 12) (len := 64) htsW hx hb hml hown hXX hOO mt_r okr (lw_swP hP) (lw_swD hD) hS hl mo_X12_feed (am_mem6 84 (by decide +kernel)) ki_X12_feed kv_X12_feed (fun _ => rfl) ⟨trivial, trivial, trivial, trivial, trivial, trivial⟩ (okr.2.1 0 _ rfl) (by decide) rfl (Nat.le_of_ble_eq_true rfl) (by decide) (by omega) (by omega) dL_477 _ (by rw [e1]; rfl) (fun αr1 H locs okr1 hP hD hS e3 => ?_)
        refine lv_icmp_eq (tgt := 1331) hx hb dL_480 (by decide) (fun _ => ?_) (fun z => absurd rfl z)
        refine W.cs (cells' := am_n gc1 + am_n gr1) (slots' := am_s gc1 + am_s gr1) (by omega) (by omega) ?_
        exact next gc1 gr1 αc1 αr1 H locs hRel1 (e2.trans e0) (e3.trans e1) okc1 okr1 (lw_swP hP) (lw_swD hD) hS
      by_cases c_7 : x = (7 : Int32)
      · refine lv_tableIn (tgt := 485) hx hb dL_33 (by rw [c_7]; decide) (by rw [c_7]; decide) (by rw [c_7]; rfl) (by decide) ?_
        obtain ⟨v, gc1, gr1, e_c, e_r, hRel1⟩ := h_7 t gc gr (xs (nI (6 * t) + nI 1).toNatClampNeg) ht hRel
        have mt_c := tX11_end e_c
        have mt_r := tX12_end e_r
        have k_c : am_n gc ≤ am_n gc1 ∧ am_s gc ≤ am_s gc1 := mt_c.1
        have k_r : am_n gr ≤ am_n gr1 ∧ am_s gr ≤ am_s gr1 := mt_r.1
        have hn1 := hN.1 (t + 1) gc1 gr1 (by omega) hRel1
        refine lv_aload_n hx hb dL_485 rfl (lv_at hl 1 rfl) ?_
        refine lv_aload_n hx hb dL_486 rfl (lv_at hl 0 rfl) ?_
        refine lv_iload_n hx hb dL_487 rfl (lv_at hl 3 rfl) ?_
        refine lv_iconst (v := nI 1) hx hb dL_488 rfl ?_
        refine lv_iadd hx hb dL_489 ?_
        refine va_sld hx hb hX hbl hbA hS (hix 1 (by decide)) dL_490 ?_
        refine lw_call (Z := zc) (g1 := gc1) (v := v) (as := [.int (xs (nI (6 * t) + nI 1).toNatClampNeg)]) (rest := []) (ci := 11) (len := 17) htsW hx hb hml hown hXX hOO mt_c okc hP hD hS hl mo_X11_end (am_mem2 140 (by decide +kernel)) ki_X11_end kv_X11_end (fun _ => rfl) ⟨trivial, trivial⟩ (okc.2.1 0 _ rfl) (by decide) rfl (Nat.le_of_ble_eq_true rfl) (by decide) (by omega) (by omega) dL_491 _ (by rw [e0]; rfl) (fun αc1 H locs okc1 hP hD hS e2 => ?_)
        refine lv_aload_n hx hb dL_494 rfl (lv_at hl 2 rfl) ?_
        refine lv_aload_n hx hb dL_495 rfl (lv_at hl 0 rfl) ?_
        refine lv_iload_n hx hb dL_496 rfl (lv_at hl 3 rfl) ?_
        refine lv_iconst (v := nI 1) hx hb dL_497 rfl ?_
        refine lv_iadd hx hb dL_498 ?_
        refine va_sld hx hb hX hbl hbA hS (hix 1 (by decide)) dL_499 ?_
        refine lw_call (Z := zr) (g1 := gr1) (v := v) (as := [.int (xs (nI (6 * t) + nI 1).toNatClampNeg)]) (rest := [.int v]) (ci := 12) (len := 64) htsW hx hb hml hown hXX hOO mt_r okr (lw_swP hP) (lw_swD hD) hS hl mo_X12_end (am_mem6 92 (by decide +kernel)) ki_X12_end kv_X12_end (fun _ => rfl) ⟨trivial, trivial⟩ (okr.2.1 0 _ rfl) (by decide) rfl (Nat.le_of_ble_eq_true rfl) (by decide) (by omega) (by omega) dL_500 _ (by rw [e1]; rfl) (fun αr1 H locs okr1 hP hD hS e3 => ?_)
        refine lv_icmp_eq (tgt := 1331) hx hb dL_503 (by decide) (fun _ => ?_) (fun z => absurd rfl z)
        refine W.cs (cells' := am_n gc1 + am_n gr1) (slots' := am_s gc1 + am_s gr1) (by omega) (by omega) ?_
        exact next gc1 gr1 αc1 αr1 H locs hRel1 (e2.trans e0) (e3.trans e1) okc1 okr1 (lw_swP hP) (lw_swD hD) hS
      by_cases c_8 : x = (8 : Int32)
      · refine lv_tableIn (tgt := 508) hx hb dL_33 (by rw [c_8]; decide) (by rw [c_8]; decide) (by rw [c_8]; rfl) (by decide) ?_
        obtain ⟨v, gc1, gr1, e_c, e_r, hRel1⟩ := h_8 t gc gr ht hRel
        have mt_c := tX11_row e_c
        have mt_r := tX12_row e_r
        have k_c : am_n gc ≤ am_n gc1 ∧ am_s gc ≤ am_s gc1 := mt_c.1
        have k_r : am_n gr ≤ am_n gr1 ∧ am_s gr ≤ am_s gr1 := mt_r.1
        have hn1 := hN.1 (t + 1) gc1 gr1 (by omega) hRel1
        refine lv_aload_n hx hb dL_508 rfl (lv_at hl 1 rfl) ?_
        refine lw_call (Z := zc) (g1 := gc1) (v := v) (as := []) (rest := []) (ci := 11) (len := 17) htsW hx hb hml hown hXX hOO mt_c okc hP hD hS hl mo_X11_row (am_mem2 144 (by decide +kernel)) ki_X11_row kv_X11_row (fun _ => rfl) trivial (okc.2.1 0 _ rfl) (by decide) rfl (Nat.le_of_ble_eq_true rfl) (by decide) (by omega) (by omega) dL_509 _ (by rw [e0]; rfl) (fun αc1 H locs okc1 hP hD hS e2 => ?_)
        refine lv_aload_n hx hb dL_512 rfl (lv_at hl 2 rfl) ?_
        refine lw_call (Z := zr) (g1 := gr1) (v := v) (as := []) (rest := [.int v]) (ci := 12) (len := 64) htsW hx hb hml hown hXX hOO mt_r okr (lw_swP hP) (lw_swD hD) hS hl mo_X12_row (am_mem6 76 (by decide +kernel)) ki_X12_row kv_X12_row (fun _ => rfl) trivial (okr.2.1 0 _ rfl) (by decide) rfl (Nat.le_of_ble_eq_true rfl) (by decide) (by omega) (by omega) dL_513 _ (by rw [e1]; rfl) (fun αr1 H locs okr1 hP hD hS e3 => ?_)
        refine lv_icmp_eq (tgt := 1331) hx hb dL_516 (by decide) (fun _ => ?_) (fun z => absurd rfl z)
        refine W.cs (cells' := am_n gc1 + am_n gr1) (slots' := am_s gc1 + am_s gr1) (by omega) (by omega) ?_
        exact next gc1 gr1 αc1 αr1 H locs hRel1 (e2.trans e0) (e3.trans e1) okc1 okr1 (lw_swP hP) (lw_swD hD) hS
      by_cases c_9 : x = (9 : Int32)
      · refine lv_tableIn (tgt := 521) hx hb dL_33 (by rw [c_9]; decide) (by rw [c_9]; decide) (by rw [c_9]; rfl) (by decide) ?_
        obtain ⟨v, gc1, gr1, e_c, e_r, hRel1⟩ := h_9 t gc gr ht hRel
        have mt_c := tX11_murmur e_c
        have mt_r := tX12_murmur e_r
        have k_c : am_n gc ≤ am_n gc1 ∧ am_s gc ≤ am_s gc1 := mt_c.1
        have k_r : am_n gr ≤ am_n gr1 ∧ am_s gr ≤ am_s gr1 := mt_r.1
        have hn1 := hN.1 (t + 1) gc1 gr1 (by omega) hRel1
        refine lv_aload_n hx hb dL_521 rfl (lv_at hl 1 rfl) ?_
        refine lw_call (Z := zc) (g1 := gc1) (v := v) (as := []) (rest := []) (ci := 11) (len := 17) htsW hx hb hml hown hXX hOO mt_c okc hP hD hS hl mo_X11_murmur (am_mem2 156 (by decide +kernel)) ki_X11_murmur kv_X11_murmur (fun _ => rfl) trivial (okc.2.1 0 _ rfl) (by decide) rfl (Nat.le_of_ble_eq_true rfl) (by decide) (by omega) (by omega) dL_522 _ (by rw [e0]; rfl) (fun αc1 H locs okc1 hP hD hS e2 => ?_)
        refine lv_aload_n hx hb dL_525 rfl (lv_at hl 2 rfl) ?_
        refine lw_call (Z := zr) (g1 := gr1) (v := v) (as := []) (rest := [.int v]) (ci := 12) (len := 64) htsW hx hb hml hown hXX hOO mt_r okr (lw_swP hP) (lw_swD hD) hS hl mo_X12_murmur (am_mem6 80 (by decide +kernel)) ki_X12_murmur kv_X12_murmur (fun _ => rfl) trivial (okr.2.1 0 _ rfl) (by decide) rfl (Nat.le_of_ble_eq_true rfl) (by decide) (by omega) (by omega) dL_526 _ (by rw [e1]; rfl) (fun αr1 H locs okr1 hP hD hS e3 => ?_)
        refine lv_icmp_eq (tgt := 1331) hx hb dL_529 (by decide) (fun _ => ?_) (fun z => absurd rfl z)
        refine W.cs (cells' := am_n gc1 + am_n gr1) (slots' := am_s gc1 + am_s gr1) (by omega) (by omega) ?_
        exact next gc1 gr1 αc1 αr1 H locs hRel1 (e2.trans e0) (e3.trans e1) okc1 okr1 (lw_swP hP) (lw_swD hD) hS
      by_cases c_10 : x = (10 : Int32)
      · refine lv_tableIn (tgt := 534) hx hb dL_33 (by rw [c_10]; decide) (by rw [c_10]; decide) (by rw [c_10]; rfl) (by decide) ?_
        obtain ⟨v, gc1, gr1, e_c, e_r, hRel1⟩ := h_10 t gc gr ht hRel
        have mt_c := tX11_law e_c
        have mt_r := tX12_law e_r
        have k_c : am_n gc ≤ am_n gc1 ∧ am_s gc ≤ am_s gc1 := mt_c.1
        have k_r : am_n gr ≤ am_n gr1 ∧ am_s gr ≤ am_s gr1 := mt_r.1
        have hn1 := hN.1 (t + 1) gc1 gr1 (by omega) hRel1
        refine lv_aload_n hx hb dL_534 rfl (lv_at hl 1 rfl) ?_
        refine lw_call (Z := zc) (g1 := gc1) (v := v) (as := []) (rest := []) (ci := 11) (len := 17) htsW hx hb hml hown hXX hOO mt_c okc hP hD hS hl mo_X11_law (am_mem2 160 (by decide +kernel)) ki_X11_law kv_X11_law (fun _ => rfl) trivial (okc.2.1 0 _ rfl) (by decide) rfl (Nat.le_of_ble_eq_true rfl) (by decide) (by omega) (by omega) dL_535 _ (by rw [e0]; rfl) (fun αc1 H locs okc1 hP hD hS e2 => ?_)
        refine lv_aload_n hx hb dL_538 rfl (lv_at hl 2 rfl) ?_
        refine lw_call (Z := zr) (g1 := gr1) (v := v) (as := []) (rest := [.int v]) (ci := 12) (len := 64) htsW hx hb hml hown hXX hOO mt_r okr (lw_swP hP) (lw_swD hD) hS hl mo_X12_law (am_mem6 100 (by decide +kernel)) ki_X12_law kv_X12_law (fun _ => rfl) trivial (okr.2.1 0 _ rfl) (by decide) rfl (Nat.le_of_ble_eq_true rfl) (by decide) (by omega) (by omega) dL_539 _ (by rw [e1]; rfl) (fun αr1 H locs okr1 hP hD hS e3 => ?_)
        refine lv_icmp_eq (tgt := 1331) hx hb dL_542 (by decide) (fun _ => ?_) (fun z => absurd rfl z)
        refine W.cs (cells' := am_n gc1 + am_n gr1) (slots' := am_s gc1 + am_s gr1) (by omega) (by omega) ?_
        exact next gc1 gr1 αc1 αr1 H locs hRel1 (e2.trans e0) (e3.trans e1) okc1 okr1 (lw_swP hP) (lw_swD hD) hS
      by_cases c_11 : x = (11 : Int32)
      · refine lv_tableIn (tgt := 547) hx hb dL_33 (by rw [c_11]; decide) (by rw [c_11]; decide) (by rw [c_11]; rfl) (by decide) ?_
        obtain ⟨v, gc1, gr1, e_c, e_r, hRel1⟩ := h_11 t gc gr ht hRel
        have mt_c := tX11_told e_c
        have mt_r := tX12_told e_r
        have k_c : am_n gc ≤ am_n gc1 ∧ am_s gc ≤ am_s gc1 := mt_c.1
        have k_r : am_n gr ≤ am_n gr1 ∧ am_s gr ≤ am_s gr1 := mt_r.1
        have hn1 := hN.1 (t + 1) gc1 gr1 (by omega) hRel1
        refine lv_aload_n hx hb dL_547 rfl (lv_at hl 1 rfl) ?_
        refine lw_call (Z := zc) (g1 := gc1) (v := v) (as := []) (rest := []) (ci := 11) (len := 17) htsW hx hb hml hown hXX hOO mt_c okc hP hD hS hl mo_X11_told (am_mem3 94 (by decide +kernel)) ki_X11_told kv_X11_told (fun _ => rfl) trivial (okc.2.1 0 _ rfl) (by decide) rfl (Nat.le_of_ble_eq_true rfl) (by decide) (by omega) (by omega) dL_548 _ (by rw [e0]; rfl) (fun αc1 H locs okc1 hP hD hS e2 => ?_)
        refine lv_aload_n hx hb dL_551 rfl (lv_at hl 2 rfl) ?_
        refine lw_call (Z := zr) (g1 := gr1) (v := v) (as := []) (rest := [.int v]) (ci := 12) (len := 64) htsW hx hb hml hown hXX hOO mt_r okr (lw_swP hP) (lw_swD hD) hS hl mo_X12_told (am_mem7 160 (by decide +kernel)) ki_X12_told kv_X12_told (fun _ => rfl) trivial (okr.2.1 0 _ rfl) (by decide) rfl (Nat.le_of_ble_eq_true rfl) (by decide) (by omega) (by omega) dL_552 _ (by rw [e1]; rfl) (fun αr1 H locs okr1 hP hD hS e3 => ?_)
        refine lv_icmp_eq (tgt := 1331) hx hb dL_555 (by decide) (fun _ => ?_) (fun z => absurd rfl z)
        refine W.cs (cells' := am_n gc1 + am_n gr1) (slots' := am_s gc1 + am_s gr1) (by omega) (by omega) ?_
        exact next gc1 gr1 αc1 αr1 H locs hRel1 (e2.trans e0) (e3.trans e1) okc1 okr1 (lw_swP hP) (lw_swD hD) hS
      by_cases c_12 : x = (12 : Int32)
      · refine lv_tableIn (tgt := 560) hx hb dL_33 (by rw [c_12]; decide) (by rw [c_12]; decide) (by rw [c_12]; rfl) (by decide) ?_
        obtain ⟨v, gc1, gr1, e_c, e_r, hRel1⟩ := h_12 t gc gr ht hRel
        have mt_c := tX11_fault e_c
        have mt_r := tX12_fault e_r
        have k_c : am_n gc ≤ am_n gc1 ∧ am_s gc ≤ am_s gc1 := mt_c.1
        have k_r : am_n gr ≤ am_n gr1 ∧ am_s gr ≤ am_s gr1 := mt_r.1
        have hn1 := hN.1 (t + 1) gc1 gr1 (by omega) hRel1
        refine lv_aload_n hx hb dL_560 rfl (lv_at hl 1 rfl) ?_
        refine lw_call (Z := zc) (g1 := gc1) (v := v) (as := []) (rest := []) (ci := 11) (len := 17) htsW hx hb hml hown hXX hOO mt_c okc hP hD hS hl mo_X11_fault (am_mem3 236 (by decide +kernel)) ki_X11_fault kv_X11_fault (fun _ => rfl) trivial (okc.2.1 0 _ rfl) (by decide) rfl (Nat.le_of_ble_eq_true rfl) (by decide) (by omega) (by omega) dL_561 _ (by rw [e0]; rfl) (fun αc1 H locs okc1 hP hD hS e2 => ?_)
        refine lv_aload_n hx hb dL_564 rfl (lv_at hl 2 rfl) ?_
        refine lw_call (Z := zr) (g1 := gr1) (v := v) (as := []) (rest := [.int v]) (ci := 12) (len := 64) htsW hx hb hml hown hXX hOO mt_r okr (lw_swP hP) (lw_swD hD) hS hl mo_X12_fault (am_mem6 96 (by decide +kernel)) ki_X12_fault kv_X12_fault (fun _ => rfl) trivial (okr.2.1 0 _ rfl) (by decide) rfl (Nat.le_of_ble_eq_true rfl) (by decide) (by omega) (by omega) dL_565 _ (by rw [e1]; rfl) (fun αr1 H locs okr1 hP hD hS e3 => ?_)
        refine lv_icmp_eq (tgt := 1331) hx hb dL_568 (by decide) (fun _ => ?_) (fun z => absurd rfl z)
        refine W.cs (cells' := am_n gc1 + am_n gr1) (slots' := am_s gc1 + am_s gr1) (by omega) (by omega) ?_
        exact next gc1 gr1 αc1 αr1 H locs hRel1 (e2.trans e0) (e3.trans e1) okc1 okr1 (lw_swP hP) (lw_swD hD) hS
      by_cases c_13 : x = (13 : Int32)
      · refine lv_tableIn (tgt := 573) hx hb dL_33 (by rw [c_13]; decide) (by rw [c_13]; decide) (by rw [c_13]; rfl) (by decide) ?_
        obtain ⟨v, gc1, gr1, e_c, e_r, hRel1⟩ := h_13 t gc gr ht hRel
        have mt_c := tX11_stopped e_c
        have mt_r := tX12_stopped e_r
        have k_c : am_n gc ≤ am_n gc1 ∧ am_s gc ≤ am_s gc1 := mt_c.1
        have k_r : am_n gr ≤ am_n gr1 ∧ am_s gr ≤ am_s gr1 := mt_r.1
        have hn1 := hN.1 (t + 1) gc1 gr1 (by omega) hRel1
        refine lv_aload_n hx hb dL_573 rfl (lv_at hl 1 rfl) ?_
        refine lw_call (Z := zc) (g1 := gc1) (v := v) (as := []) (rest := []) (ci := 11) (len := 17) htsW hx hb hml hown hXX hOO mt_c okc hP hD hS hl mo_X11_stopped (am_mem4 0 (by decide +kernel)) ki_X11_stopped kv_X11_stopped (fun _ => rfl) trivial (okc.2.1 0 _ rfl) (by decide) rfl (Nat.le_of_ble_eq_true rfl) (by decide) (by omega) (by omega) dL_574 _ (by rw [e0]; rfl) (fun αc1 H locs okc1 hP hD hS e2 => ?_)
        refine lv_aload_n hx hb dL_577 rfl (lv_at hl 2 rfl) ?_
        refine lw_call (Z := zr) (g1 := gr1) (v := v) (as := []) (rest := [.int v]) (ci := 12) (len := 64) htsW hx hb hml hown hXX hOO mt_r okr (lw_swP hP) (lw_swD hD) hS hl mo_X12_stopped (am_mem7 188 (by decide +kernel)) ki_X12_stopped kv_X12_stopped (fun _ => rfl) trivial (okr.2.1 0 _ rfl) (by decide) rfl (Nat.le_of_ble_eq_true rfl) (by decide) (by omega) (by omega) dL_578 _ (by rw [e1]; rfl) (fun αr1 H locs okr1 hP hD hS e3 => ?_)
        refine lv_icmp_eq (tgt := 1331) hx hb dL_581 (by decide) (fun _ => ?_) (fun z => absurd rfl z)
        refine W.cs (cells' := am_n gc1 + am_n gr1) (slots' := am_s gc1 + am_s gr1) (by omega) (by omega) ?_
        exact next gc1 gr1 αc1 αr1 H locs hRel1 (e2.trans e0) (e3.trans e1) okc1 okr1 (lw_swP hP) (lw_swD hD) hS
      by_cases c_14 : x = (14 : Int32)
      · refine lv_tableIn (tgt := 586) hx hb dL_33 (by rw [c_14]; decide) (by rw [c_14]; decide) (by rw [c_14]; rfl) (by decide) ?_
        obtain ⟨v, gc1, gr1, e_c, e_r, hRel1⟩ := h_14 t gc gr (xs (nI (6 * t) + nI 1).toNatClampNeg) ht hRel
        have mt_c := tX11_force e_c
        have mt_r := tX12_force e_r
        have k_c : am_n gc ≤ am_n gc1 ∧ am_s gc ≤ am_s gc1 := mt_c.1
        have k_r : am_n gr ≤ am_n gr1 ∧ am_s gr ≤ am_s gr1 := mt_r.1
        have hn1 := hN.1 (t + 1) gc1 gr1 (by omega) hRel1
        refine lv_aload_n hx hb dL_586 rfl (lv_at hl 1 rfl) ?_
        refine lv_aload_n hx hb dL_587 rfl (lv_at hl 0 rfl) ?_
        refine lv_iload_n hx hb dL_588 rfl (lv_at hl 3 rfl) ?_
        refine lv_iconst (v := nI 1) hx hb dL_589 rfl ?_
        refine lv_iadd hx hb dL_590 ?_
        refine va_sld hx hb hX hbl hbA hS (hix 1 (by decide)) dL_591 ?_
        refine lw_call (Z := zc) (g1 := gc1) (v := v) (as := [.int (xs (nI (6 * t) + nI 1).toNatClampNeg)]) (rest := []) (ci := 11) (len := 17) htsW hx hb hml hown hXX hOO mt_c okc hP hD hS hl mo_X11_force (am_mem4 4 (by decide +kernel)) ki_X11_force kv_X11_force (fun _ => rfl) ⟨trivial, trivial⟩ (okc.2.1 0 _ rfl) (by decide) rfl (Nat.le_of_ble_eq_true rfl) (by decide) (by omega) (by omega) dL_592 _ (by rw [e0]; rfl) (fun αc1 H locs okc1 hP hD hS e2 => ?_)
        refine lv_aload_n hx hb dL_595 rfl (lv_at hl 2 rfl) ?_
        refine lv_aload_n hx hb dL_596 rfl (lv_at hl 0 rfl) ?_
        refine lv_iload_n hx hb dL_597 rfl (lv_at hl 3 rfl) ?_
        refine lv_iconst (v := nI 1) hx hb dL_598 rfl ?_
        refine lv_iadd hx hb dL_599 ?_
        refine va_sld hx hb hX hbl hbA hS (hix 1 (by decide)) dL_600 ?_
        refine lw_call (Z := zr) (g1 := gr1) (v := v) (as := [.int (xs (nI (6 * t) + nI 1).toNatClampNeg)]) (rest := [.int v]) (ci := 12) (len := 64) htsW hx hb hml hown hXX hOO mt_r okr (lw_swP hP) (lw_swD hD) hS hl mo_X12_force (am_mem6 220 (by decide +kernel)) ki_X12_force kv_X12_force (fun _ => rfl) ⟨trivial, trivial⟩ (okr.2.1 0 _ rfl) (by decide) rfl (Nat.le_of_ble_eq_true rfl) (by decide) (by omega) (by omega) dL_601 _ (by rw [e1]; rfl) (fun αr1 H locs okr1 hP hD hS e3 => ?_)
        refine lv_icmp_eq (tgt := 1331) hx hb dL_604 (by decide) (fun _ => ?_) (fun z => absurd rfl z)
        refine W.cs (cells' := am_n gc1 + am_n gr1) (slots' := am_s gc1 + am_s gr1) (by omega) (by omega) ?_
        exact next gc1 gr1 αc1 αr1 H locs hRel1 (e2.trans e0) (e3.trans e1) okc1 okr1 (lw_swP hP) (lw_swD hD) hS
      by_cases c_15 : x = (15 : Int32)
      · refine lv_tableIn (tgt := 609) hx hb dL_33 (by rw [c_15]; decide) (by rw [c_15]; decide) (by rw [c_15]; rfl) (by decide) ?_
        obtain ⟨v, gc1, gr1, e_c, e_r, hRel1⟩ := h_15 t gc gr (xs (nI (6 * t) + nI 1).toNatClampNeg) (xs (nI (6 * t) + nI 2).toNatClampNeg) (xs (nI (6 * t) + nI 3).toNatClampNeg) (xs (nI (6 * t) + nI 4).toNatClampNeg) (xs (nI (6 * t) + nI 5).toNatClampNeg) ht hRel
        have mt_c := tX11_asks e_c
        have mt_r := tX12_asks e_r
        have k_c : am_n gc ≤ am_n gc1 ∧ am_s gc ≤ am_s gc1 := mt_c.1
        have k_r : am_n gr ≤ am_n gr1 ∧ am_s gr ≤ am_s gr1 := mt_r.1
        have hn1 := hN.1 (t + 1) gc1 gr1 (by omega) hRel1
        refine lv_aload_n hx hb dL_609 rfl (lv_at hl 1 rfl) ?_
        refine lv_aload_n hx hb dL_610 rfl (lv_at hl 0 rfl) ?_
        refine lv_iload_n hx hb dL_611 rfl (lv_at hl 3 rfl) ?_
        refine lv_iconst (v := nI 1) hx hb dL_612 rfl ?_
        refine lv_iadd hx hb dL_613 ?_
        refine va_sld hx hb hX hbl hbA hS (hix 1 (by decide)) dL_614 ?_
        refine lv_aload_n hx hb dL_615 rfl (lv_at hl 0 rfl) ?_
        refine lv_iload_n hx hb dL_616 rfl (lv_at hl 3 rfl) ?_
        refine lv_iconst (v := nI 2) hx hb dL_617 rfl ?_
        refine lv_iadd hx hb dL_618 ?_
        refine va_sld hx hb hX hbl hbA hS (hix 2 (by decide)) dL_619 ?_
        refine lv_aload_n hx hb dL_620 rfl (lv_at hl 0 rfl) ?_
        refine lv_iload_n hx hb dL_621 rfl (lv_at hl 3 rfl) ?_
        refine lv_iconst (v := nI 3) hx hb dL_622 rfl ?_
        refine lv_iadd hx hb dL_623 ?_
        refine va_sld hx hb hX hbl hbA hS (hix 3 (by decide)) dL_624 ?_
        refine lv_aload_n hx hb dL_625 rfl (lv_at hl 0 rfl) ?_
        refine lv_iload_n hx hb dL_626 rfl (lv_at hl 3 rfl) ?_
        refine lv_iconst (v := nI 4) hx hb dL_627 rfl ?_
        refine lv_iadd hx hb dL_628 ?_
        refine va_sld hx hb hX hbl hbA hS (hix 4 (by decide)) dL_629 ?_
        refine lv_aload_n hx hb dL_630 rfl (lv_at hl 0 rfl) ?_
        refine lv_iload_n hx hb dL_631 rfl (lv_at hl 3 rfl) ?_
        refine lv_iconst (v := nI 5) hx hb dL_632 rfl ?_
        refine lv_iadd hx hb dL_633 ?_
        refine va_sld hx hb hX hbl hbA hS (hix 5 (by decide)) dL_634 ?_
        refine lw_call (Z := zc) (g1 := gc1) (v := v) (as := [.int (xs (nI (6 * t) + nI 1).toNatClampNeg), .int (xs (nI (6 * t) + nI 2).toNatClampNeg), .int (xs (nI (6 * t) + nI 3).toNatClampNeg), .int (xs (nI (6 * t) + nI 4).toNatClampNeg), .int (xs (nI (6 * t) + nI 5).toNatClampNeg)]) (rest := []) (ci := 11) (len := 17) htsW hx hb hml hown hXX hOO mt_c okc hP hD hS hl mo_X11_asks (am_mem4 8 (by decide +kernel)) ki_X11_asks kv_X11_asks (fun _ => rfl) ⟨trivial, trivial, trivial, trivial, trivial, trivial⟩ (okc.2.1 0 _ rfl) (by decide) rfl (Nat.le_of_ble_eq_true rfl) (by decide) (by omega) (by omega) dL_635 _ (by rw [e0]; rfl) (fun αc1 H locs okc1 hP hD hS e2 => ?_)
        refine lv_aload_n hx hb dL_638 rfl (lv_at hl 2 rfl) ?_
        refine lv_aload_n hx hb dL_639 rfl (lv_at hl 0 rfl) ?_
        refine lv_iload_n hx hb dL_640 rfl (lv_at hl 3 rfl) ?_
        refine lv_iconst (v := nI 1) hx hb dL_641 rfl ?_
        refine lv_iadd hx hb dL_642 ?_
        refine va_sld hx hb hX hbl hbA hS (hix 1 (by decide)) dL_643 ?_
        refine lv_aload_n hx hb dL_644 rfl (lv_at hl 0 rfl) ?_
        refine lv_iload_n hx hb dL_645 rfl (lv_at hl 3 rfl) ?_
        refine lv_iconst (v := nI 2) hx hb dL_646 rfl ?_
        refine lv_iadd hx hb dL_647 ?_
        refine va_sld hx hb hX hbl hbA hS (hix 2 (by decide)) dL_648 ?_
        refine lv_aload_n hx hb dL_649 rfl (lv_at hl 0 rfl) ?_
        refine lv_iload_n hx hb dL_650 rfl (lv_at hl 3 rfl) ?_
        refine lv_iconst (v := nI 3) hx hb dL_651 rfl ?_
        refine lv_iadd hx hb dL_652 ?_
        refine va_sld hx hb hX hbl hbA hS (hix 3 (by decide)) dL_653 ?_
        refine lv_aload_n hx hb dL_654 rfl (lv_at hl 0 rfl) ?_
        refine lv_iload_n hx hb dL_655 rfl (lv_at hl 3 rfl) ?_
        refine lv_iconst (v := nI 4) hx hb dL_656 rfl ?_
        refine lv_iadd hx hb dL_657 ?_
        refine va_sld hx hb hX hbl hbA hS (hix 4 (by decide)) dL_658 ?_
        refine lv_aload_n hx hb dL_659 rfl (lv_at hl 0 rfl) ?_
        refine lv_iload_n hx hb dL_660 rfl (lv_at hl 3 rfl) ?_
        refine lv_iconst (v := nI 5) hx hb dL_661 rfl ?_
        refine lv_iadd hx hb dL_662 ?_
        refine va_sld hx hb hX hbl hbA hS (hix 5 (by decide)) dL_663 ?_
        refine lw_call (Z := zr) (g1 := gr1) (v := v) (as := [.int (xs (nI (6 * t) + nI 1).toNatClampNeg), .int (xs (nI (6 * t) + nI 2).toNatClampNeg), .int (xs (nI (6 * t) + nI 3).toNatClampNeg), .int (xs (nI (6 * t) + nI 4).toNatClampNeg), .int (xs (nI (6 * t) + nI 5).toNatClampNeg)]) (rest := [.int v]) (ci := 12) (len := 64) htsW hx hb hml hown hXX hOO mt_r okr (lw_swP hP) (lw_swD hD) hS hl mo_X12_asks (am_mem6 224 (by decide +kernel)) ki_X12_asks kv_X12_asks (fun _ => rfl) ⟨trivial, trivial, trivial, trivial, trivial, trivial⟩ (okr.2.1 0 _ rfl) (by decide) rfl (Nat.le_of_ble_eq_true rfl) (by decide) (by omega) (by omega) dL_664 _ (by rw [e1]; rfl) (fun αr1 H locs okr1 hP hD hS e3 => ?_)
        refine lv_icmp_eq (tgt := 1331) hx hb dL_667 (by decide) (fun _ => ?_) (fun z => absurd rfl z)
        refine W.cs (cells' := am_n gc1 + am_n gr1) (slots' := am_s gc1 + am_s gr1) (by omega) (by omega) ?_
        exact next gc1 gr1 αc1 αr1 H locs hRel1 (e2.trans e0) (e3.trans e1) okc1 okr1 (lw_swP hP) (lw_swD hD) hS
      by_cases c_16 : x = (16 : Int32)
      · refine lv_tableIn (tgt := 672) hx hb dL_33 (by rw [c_16]; decide) (by rw [c_16]; decide) (by rw [c_16]; rfl) (by decide) ?_
        obtain ⟨v, gc1, gr1, e_c, e_r, hRel1⟩ := h_16 t gc gr (xs (nI (6 * t) + nI 1).toNatClampNeg) (xs (nI (6 * t) + nI 2).toNatClampNeg) ht hRel
        have mt_c := tX11_weather e_c
        have mt_r := tX12_weather e_r
        have k_c : am_n gc ≤ am_n gc1 ∧ am_s gc ≤ am_s gc1 := mt_c.1
        have k_r : am_n gr ≤ am_n gr1 ∧ am_s gr ≤ am_s gr1 := mt_r.1
        have hn1 := hN.1 (t + 1) gc1 gr1 (by omega) hRel1
        refine lv_aload_n hx hb dL_672 rfl (lv_at hl 1 rfl) ?_
        refine lv_aload_n hx hb dL_673 rfl (lv_at hl 0 rfl) ?_
        refine lv_iload_n hx hb dL_674 rfl (lv_at hl 3 rfl) ?_
        refine lv_iconst (v := nI 1) hx hb dL_675 rfl ?_
        refine lv_iadd hx hb dL_676 ?_
        refine va_sld hx hb hX hbl hbA hS (hix 1 (by decide)) dL_677 ?_
        refine lv_aload_n hx hb dL_678 rfl (lv_at hl 0 rfl) ?_
        refine lv_iload_n hx hb dL_679 rfl (lv_at hl 3 rfl) ?_
        refine lv_iconst (v := nI 2) hx hb dL_680 rfl ?_
        refine lv_iadd hx hb dL_681 ?_
        refine va_sld hx hb hX hbl hbA hS (hix 2 (by decide)) dL_682 ?_
        refine lw_call (Z := zc) (g1 := gc1) (v := v) (as := [.int (xs (nI (6 * t) + nI 1).toNatClampNeg), .int (xs (nI (6 * t) + nI 2).toNatClampNeg)]) (rest := []) (ci := 11) (len := 17) htsW hx hb hml hown hXX hOO mt_c okc hP hD hS hl mo_X11_weather (am_mem4 12 (by decide +kernel)) ki_X11_weather kv_X11_weather (fun _ => rfl) ⟨trivial, trivial, trivial⟩ (okc.2.1 0 _ rfl) (by decide) rfl (Nat.le_of_ble_eq_true rfl) (by decide) (by omega) (by omega) dL_683 _ (by rw [e0]; rfl) (fun αc1 H locs okc1 hP hD hS e2 => ?_)
        refine lv_aload_n hx hb dL_686 rfl (lv_at hl 2 rfl) ?_
        refine lv_aload_n hx hb dL_687 rfl (lv_at hl 0 rfl) ?_
        refine lv_iload_n hx hb dL_688 rfl (lv_at hl 3 rfl) ?_
        refine lv_iconst (v := nI 1) hx hb dL_689 rfl ?_
        refine lv_iadd hx hb dL_690 ?_
        refine va_sld hx hb hX hbl hbA hS (hix 1 (by decide)) dL_691 ?_
        refine lv_aload_n hx hb dL_692 rfl (lv_at hl 0 rfl) ?_
        refine lv_iload_n hx hb dL_693 rfl (lv_at hl 3 rfl) ?_
        refine lv_iconst (v := nI 2) hx hb dL_694 rfl ?_
        refine lv_iadd hx hb dL_695 ?_
        refine va_sld hx hb hX hbl hbA hS (hix 2 (by decide)) dL_696 ?_
        refine lw_call (Z := zr) (g1 := gr1) (v := v) (as := [.int (xs (nI (6 * t) + nI 1).toNatClampNeg), .int (xs (nI (6 * t) + nI 2).toNatClampNeg)]) (rest := [.int v]) (ci := 12) (len := 64) htsW hx hb hml hown hXX hOO mt_r okr (lw_swP hP) (lw_swD hD) hS hl mo_X12_weather (am_mem7 31 (by decide +kernel)) ki_X12_weather kv_X12_weather (fun _ => rfl) ⟨trivial, trivial, trivial⟩ (okr.2.1 0 _ rfl) (by decide) rfl (Nat.le_of_ble_eq_true rfl) (by decide) (by omega) (by omega) dL_697 _ (by rw [e1]; rfl) (fun αr1 H locs okr1 hP hD hS e3 => ?_)
        refine lv_icmp_eq (tgt := 1331) hx hb dL_700 (by decide) (fun _ => ?_) (fun z => absurd rfl z)
        refine W.cs (cells' := am_n gc1 + am_n gr1) (slots' := am_s gc1 + am_s gr1) (by omega) (by omega) ?_
        exact next gc1 gr1 αc1 αr1 H locs hRel1 (e2.trans e0) (e3.trans e1) okc1 okr1 (lw_swP hP) (lw_swD hD) hS
      by_cases c_17 : x = (17 : Int32)
      · refine lv_tableIn (tgt := 705) hx hb dL_33 (by rw [c_17]; decide) (by rw [c_17]; decide) (by rw [c_17]; rfl) (by decide) ?_
        obtain ⟨v, gc1, gr1, e_c, e_r, hRel1⟩ := h_17 t gc gr (xs (nI (6 * t) + nI 1).toNatClampNeg) (xs (nI (6 * t) + nI 2).toNatClampNeg) (xs (nI (6 * t) + nI 3).toNatClampNeg) (xs (nI (6 * t) + nI 4).toNatClampNeg) ht hRel
        have mt_c := tX11_say e_c
        have mt_r := tX12_say e_r
        have k_c : am_n gc ≤ am_n gc1 ∧ am_s gc ≤ am_s gc1 := mt_c.1
        have k_r : am_n gr ≤ am_n gr1 ∧ am_s gr ≤ am_s gr1 := mt_r.1
        have hn1 := hN.1 (t + 1) gc1 gr1 (by omega) hRel1
        refine lv_aload_n hx hb dL_705 rfl (lv_at hl 1 rfl) ?_
        refine lv_aload_n hx hb dL_706 rfl (lv_at hl 0 rfl) ?_
        refine lv_iload_n hx hb dL_707 rfl (lv_at hl 3 rfl) ?_
        refine lv_iconst (v := nI 1) hx hb dL_708 rfl ?_
        refine lv_iadd hx hb dL_709 ?_
        refine va_sld hx hb hX hbl hbA hS (hix 1 (by decide)) dL_710 ?_
        refine lv_aload_n hx hb dL_711 rfl (lv_at hl 0 rfl) ?_
        refine lv_iload_n hx hb dL_712 rfl (lv_at hl 3 rfl) ?_
        refine lv_iconst (v := nI 2) hx hb dL_713 rfl ?_
        refine lv_iadd hx hb dL_714 ?_
        refine va_sld hx hb hX hbl hbA hS (hix 2 (by decide)) dL_715 ?_
        refine lv_aload_n hx hb dL_716 rfl (lv_at hl 0 rfl) ?_
        refine lv_iload_n hx hb dL_717 rfl (lv_at hl 3 rfl) ?_
        refine lv_iconst (v := nI 3) hx hb dL_718 rfl ?_
        refine lv_iadd hx hb dL_719 ?_
        refine va_sld hx hb hX hbl hbA hS (hix 3 (by decide)) dL_720 ?_
        refine lv_aload_n hx hb dL_721 rfl (lv_at hl 0 rfl) ?_
        refine lv_iload_n hx hb dL_722 rfl (lv_at hl 3 rfl) ?_
        refine lv_iconst (v := nI 4) hx hb dL_723 rfl ?_
        refine lv_iadd hx hb dL_724 ?_
        refine va_sld hx hb hX hbl hbA hS (hix 4 (by decide)) dL_725 ?_
        refine lw_call (Z := zc) (g1 := gc1) (v := v) (as := [.int (xs (nI (6 * t) + nI 1).toNatClampNeg), .int (xs (nI (6 * t) + nI 2).toNatClampNeg), .int (xs (nI (6 * t) + nI 3).toNatClampNeg), .int (xs (nI (6 * t) + nI 4).toNatClampNeg)]) (rest := []) (ci := 11) (len := 17) htsW hx hb hml hown hXX hOO mt_c okc hP hD hS hl mo_X11_say (am_mem4 16 (by decide +kernel)) ki_X11_say kv_X11_say (fun _ => rfl) ⟨trivial, trivial, trivial, trivial, trivial⟩ (okc.2.1 0 _ rfl) (by decide) rfl (Nat.le_of_ble_eq_true rfl) (by decide) (by omega) (by omega) dL_726 _ (by rw [e0]; rfl) (fun αc1 H locs okc1 hP hD hS e2 => ?_)
        refine lv_aload_n hx hb dL_729 rfl (lv_at hl 2 rfl) ?_
        refine lv_aload_n hx hb dL_730 rfl (lv_at hl 0 rfl) ?_
        refine lv_iload_n hx hb dL_731 rfl (lv_at hl 3 rfl) ?_
        refine lv_iconst (v := nI 1) hx hb dL_732 rfl ?_
        refine lv_iadd hx hb dL_733 ?_
        refine va_sld hx hb hX hbl hbA hS (hix 1 (by decide)) dL_734 ?_
        refine lv_aload_n hx hb dL_735 rfl (lv_at hl 0 rfl) ?_
        refine lv_iload_n hx hb dL_736 rfl (lv_at hl 3 rfl) ?_
        refine lv_iconst (v := nI 2) hx hb dL_737 rfl ?_
        refine lv_iadd hx hb dL_738 ?_
        refine va_sld hx hb hX hbl hbA hS (hix 2 (by decide)) dL_739 ?_
        refine lv_aload_n hx hb dL_740 rfl (lv_at hl 0 rfl) ?_
        refine lv_iload_n hx hb dL_741 rfl (lv_at hl 3 rfl) ?_
        refine lv_iconst (v := nI 3) hx hb dL_742 rfl ?_
        refine lv_iadd hx hb dL_743 ?_
        refine va_sld hx hb hX hbl hbA hS (hix 3 (by decide)) dL_744 ?_
        refine lv_aload_n hx hb dL_745 rfl (lv_at hl 0 rfl) ?_
        refine lv_iload_n hx hb dL_746 rfl (lv_at hl 3 rfl) ?_
        refine lv_iconst (v := nI 4) hx hb dL_747 rfl ?_
        refine lv_iadd hx hb dL_748 ?_
        refine va_sld hx hb hX hbl hbA hS (hix 4 (by decide)) dL_749 ?_
        refine lw_call (Z := zr) (g1 := gr1) (v := v) (as := [.int (xs (nI (6 * t) + nI 1).toNatClampNeg), .int (xs (nI (6 * t) + nI 2).toNatClampNeg), .int (xs (nI (6 * t) + nI 3).toNatClampNeg), .int (xs (nI (6 * t) + nI 4).toNatClampNeg)]) (rest := [.int v]) (ci := 12) (len := 64) htsW hx hb hml hown hXX hOO mt_r okr (lw_swP hP) (lw_swD hD) hS hl mo_X12_say (am_mem7 39 (by decide +kernel)) ki_X12_say kv_X12_say (fun _ => rfl) ⟨trivial, trivial, trivial, trivial, trivial⟩ (okr.2.1 0 _ rfl) (by decide) rfl (Nat.le_of_ble_eq_true rfl) (by decide) (by omega) (by omega) dL_750 _ (by rw [e1]; rfl) (fun αr1 H locs okr1 hP hD hS e3 => ?_)
        refine lv_icmp_eq (tgt := 1331) hx hb dL_753 (by decide) (fun _ => ?_) (fun z => absurd rfl z)
        refine W.cs (cells' := am_n gc1 + am_n gr1) (slots' := am_s gc1 + am_s gr1) (by omega) (by omega) ?_
        exact next gc1 gr1 αc1 αr1 H locs hRel1 (e2.trans e0) (e3.trans e1) okc1 okr1 (lw_swP hP) (lw_swD hD) hS
      by_cases c_18 : x = (18 : Int32)
      · refine lv_tableIn (tgt := 758) hx hb dL_33 (by rw [c_18]; decide) (by rw [c_18]; decide) (by rw [c_18]; rfl) (by decide) ?_
        obtain ⟨v, gc1, gr1, e_c, e_r, hRel1⟩ := h_18 t gc gr ht hRel
        have mt_c := tX11_dawn e_c
        have mt_r := tX12_dawn e_r
        have k_c : am_n gc ≤ am_n gc1 ∧ am_s gc ≤ am_s gc1 := mt_c.1
        have k_r : am_n gr ≤ am_n gr1 ∧ am_s gr ≤ am_s gr1 := mt_r.1
        have hn1 := hN.1 (t + 1) gc1 gr1 (by omega) hRel1
        refine lv_aload_n hx hb dL_758 rfl (lv_at hl 1 rfl) ?_
        refine lw_call (Z := zc) (g1 := gc1) (v := v) (as := []) (rest := []) (ci := 11) (len := 17) htsW hx hb hml hown hXX hOO mt_c okc hP hD hS hl mo_X11_dawn (am_mem4 20 (by decide +kernel)) ki_X11_dawn kv_X11_dawn (fun _ => rfl) trivial (okc.2.1 0 _ rfl) (by decide) rfl (Nat.le_of_ble_eq_true rfl) (by decide) (by omega) (by omega) dL_759 _ (by rw [e0]; rfl) (fun αc1 H locs okc1 hP hD hS e2 => ?_)
        refine lv_aload_n hx hb dL_762 rfl (lv_at hl 2 rfl) ?_
        refine lw_call (Z := zr) (g1 := gr1) (v := v) (as := []) (rest := [.int v]) (ci := 12) (len := 64) htsW hx hb hml hown hXX hOO mt_r okr (lw_swP hP) (lw_swD hD) hS hl mo_X12_dawn (am_mem7 67 (by decide +kernel)) ki_X12_dawn kv_X12_dawn (fun _ => rfl) trivial (okr.2.1 0 _ rfl) (by decide) rfl (Nat.le_of_ble_eq_true rfl) (by decide) (by omega) (by omega) dL_763 _ (by rw [e1]; rfl) (fun αr1 H locs okr1 hP hD hS e3 => ?_)
        refine lv_icmp_eq (tgt := 1331) hx hb dL_766 (by decide) (fun _ => ?_) (fun z => absurd rfl z)
        refine W.cs (cells' := am_n gc1 + am_n gr1) (slots' := am_s gc1 + am_s gr1) (by omega) (by omega) ?_
        exact next gc1 gr1 αc1 αr1 H locs hRel1 (e2.trans e0) (e3.trans e1) okc1 okr1 (lw_swP hP) (lw_swD hD) hS
      by_cases c_19 : x = (19 : Int32)
      · refine lv_tableIn (tgt := 771) hx hb dL_33 (by rw [c_19]; decide) (by rw [c_19]; decide) (by rw [c_19]; rfl) (by decide) ?_
        obtain ⟨v, gc1, gr1, e_c, e_r, hRel1⟩ := h_19 t gc gr ht hRel
        have mt_c := tX11_undo e_c
        have mt_r := tX12_undo e_r
        have k_c : am_n gc ≤ am_n gc1 ∧ am_s gc ≤ am_s gc1 := mt_c.1
        have k_r : am_n gr ≤ am_n gr1 ∧ am_s gr ≤ am_s gr1 := mt_r.1
        have hn1 := hN.1 (t + 1) gc1 gr1 (by omega) hRel1
        refine lv_aload_n hx hb dL_771 rfl (lv_at hl 1 rfl) ?_
        refine lw_call (Z := zc) (g1 := gc1) (v := v) (as := []) (rest := []) (ci := 11) (len := 17) htsW hx hb hml hown hXX hOO mt_c okc hP hD hS hl mo_X11_undo (am_mem4 24 (by decide +kernel)) ki_X11_undo kv_X11_undo (fun _ => rfl) trivial (okc.2.1 0 _ rfl) (by decide) rfl (Nat.le_of_ble_eq_true rfl) (by decide) (by omega) (by omega) dL_772 _ (by rw [e0]; rfl) (fun αc1 H locs okc1 hP hD hS e2 => ?_)
        refine lv_aload_n hx hb dL_775 rfl (lv_at hl 2 rfl) ?_
        refine lw_call (Z := zr) (g1 := gr1) (v := v) (as := []) (rest := [.int v]) (ci := 12) (len := 64) htsW hx hb hml hown hXX hOO mt_r okr (lw_swP hP) (lw_swD hD) hS hl mo_X12_undo (am_mem5 235 (by decide +kernel)) ki_X12_undo kv_X12_undo (fun _ => rfl) trivial (okr.2.1 0 _ rfl) (by decide) rfl (Nat.le_of_ble_eq_true rfl) (by decide) (by omega) (by omega) dL_776 _ (by rw [e1]; rfl) (fun αr1 H locs okr1 hP hD hS e3 => ?_)
        refine lv_icmp_eq (tgt := 1331) hx hb dL_779 (by decide) (fun _ => ?_) (fun z => absurd rfl z)
        refine W.cs (cells' := am_n gc1 + am_n gr1) (slots' := am_s gc1 + am_s gr1) (by omega) (by omega) ?_
        exact next gc1 gr1 αc1 αr1 H locs hRel1 (e2.trans e0) (e3.trans e1) okc1 okr1 (lw_swP hP) (lw_swD hD) hS
      by_cases c_20 : x = (20 : Int32)
      · refine lv_tableIn (tgt := 784) hx hb dL_33 (by rw [c_20]; decide) (by rw [c_20]; decide) (by rw [c_20]; rfl) (by decide) ?_
        obtain ⟨v, gc1, gr1, e_c, e_r, hRel1⟩ := h_20 t gc gr (xs (nI (6 * t) + nI 1).toNatClampNeg) (xs (nI (6 * t) + nI 2).toNatClampNeg) (xs (nI (6 * t) + nI 3).toNatClampNeg) ht hRel
        have mt_c := tX11_share e_c
        have mt_r := tX12_share e_r
        have k_c : am_n gc ≤ am_n gc1 ∧ am_s gc ≤ am_s gc1 := mt_c.1
        have k_r : am_n gr ≤ am_n gr1 ∧ am_s gr ≤ am_s gr1 := mt_r.1
        have hn1 := hN.1 (t + 1) gc1 gr1 (by omega) hRel1
        refine lv_aload_n hx hb dL_784 rfl (lv_at hl 1 rfl) ?_
        refine lv_aload_n hx hb dL_785 rfl (lv_at hl 0 rfl) ?_
        refine lv_iload_n hx hb dL_786 rfl (lv_at hl 3 rfl) ?_
        refine lv_iconst (v := nI 1) hx hb dL_787 rfl ?_
        refine lv_iadd hx hb dL_788 ?_
        refine va_sld hx hb hX hbl hbA hS (hix 1 (by decide)) dL_789 ?_
        refine lv_aload_n hx hb dL_790 rfl (lv_at hl 0 rfl) ?_
        refine lv_iload_n hx hb dL_791 rfl (lv_at hl 3 rfl) ?_
        refine lv_iconst (v := nI 2) hx hb dL_792 rfl ?_
        refine lv_iadd hx hb dL_793 ?_
        refine va_sld hx hb hX hbl hbA hS (hix 2 (by decide)) dL_794 ?_
        refine lv_aload_n hx hb dL_795 rfl (lv_at hl 0 rfl) ?_
        refine lv_iload_n hx hb dL_796 rfl (lv_at hl 3 rfl) ?_
        refine lv_iconst (v := nI 3) hx hb dL_797 rfl ?_
        refine lv_iadd hx hb dL_798 ?_
        refine va_sld hx hb hX hbl hbA hS (hix 3 (by decide)) dL_799 ?_
        refine lw_call (Z := zc) (g1 := gc1) (v := v) (as := [.int (xs (nI (6 * t) + nI 1).toNatClampNeg), .int (xs (nI (6 * t) + nI 2).toNatClampNeg), .int (xs (nI (6 * t) + nI 3).toNatClampNeg)]) (rest := []) (ci := 11) (len := 17) htsW hx hb hml hown hXX hOO mt_c okc hP hD hS hl mo_X11_share (am_mem4 32 (by decide +kernel)) ki_X11_share kv_X11_share (fun _ => rfl) ⟨trivial, trivial, trivial, trivial⟩ (okc.2.1 0 _ rfl) (by decide) rfl (Nat.le_of_ble_eq_true rfl) (by decide) (by omega) (by omega) dL_800 _ (by rw [e0]; rfl) (fun αc1 H locs okc1 hP hD hS e2 => ?_)
        refine lv_aload_n hx hb dL_803 rfl (lv_at hl 2 rfl) ?_
        refine lv_aload_n hx hb dL_804 rfl (lv_at hl 0 rfl) ?_
        refine lv_iload_n hx hb dL_805 rfl (lv_at hl 3 rfl) ?_
        refine lv_iconst (v := nI 1) hx hb dL_806 rfl ?_
        refine lv_iadd hx hb dL_807 ?_
        refine va_sld hx hb hX hbl hbA hS (hix 1 (by decide)) dL_808 ?_
        refine lv_aload_n hx hb dL_809 rfl (lv_at hl 0 rfl) ?_
        refine lv_iload_n hx hb dL_810 rfl (lv_at hl 3 rfl) ?_
        refine lv_iconst (v := nI 2) hx hb dL_811 rfl ?_
        refine lv_iadd hx hb dL_812 ?_
        refine va_sld hx hb hX hbl hbA hS (hix 2 (by decide)) dL_813 ?_
        refine lv_aload_n hx hb dL_814 rfl (lv_at hl 0 rfl) ?_
        refine lv_iload_n hx hb dL_815 rfl (lv_at hl 3 rfl) ?_
        refine lv_iconst (v := nI 3) hx hb dL_816 rfl ?_
        refine lv_iadd hx hb dL_817 ?_
        refine va_sld hx hb hX hbl hbA hS (hix 3 (by decide)) dL_818 ?_
        refine lw_call (Z := zr) (g1 := gr1) (v := v) (as := [.int (xs (nI (6 * t) + nI 1).toNatClampNeg), .int (xs (nI (6 * t) + nI 2).toNatClampNeg), .int (xs (nI (6 * t) + nI 3).toNatClampNeg)]) (rest := [.int v]) (ci := 12) (len := 64) htsW hx hb hml hown hXX hOO mt_r okr (lw_swP hP) (lw_swD hD) hS hl mo_X12_share (am_mem7 79 (by decide +kernel)) ki_X12_share kv_X12_share (fun _ => rfl) ⟨trivial, trivial, trivial, trivial⟩ (okr.2.1 0 _ rfl) (by decide) rfl (Nat.le_of_ble_eq_true rfl) (by decide) (by omega) (by omega) dL_819 _ (by rw [e1]; rfl) (fun αr1 H locs okr1 hP hD hS e3 => ?_)
        refine lv_icmp_eq (tgt := 1331) hx hb dL_822 (by decide) (fun _ => ?_) (fun z => absurd rfl z)
        refine W.cs (cells' := am_n gc1 + am_n gr1) (slots' := am_s gc1 + am_s gr1) (by omega) (by omega) ?_
        exact next gc1 gr1 αc1 αr1 H locs hRel1 (e2.trans e0) (e3.trans e1) okc1 okr1 (lw_swP hP) (lw_swD hD) hS
      by_cases c_21 : x = (21 : Int32)
      · refine lv_tableIn (tgt := 827) hx hb dL_33 (by rw [c_21]; decide) (by rw [c_21]; decide) (by rw [c_21]; rfl) (by decide) ?_
        obtain ⟨v, gc1, gr1, e_c, e_r, hRel1⟩ := h_21 t gc gr (xs (nI (6 * t) + nI 1).toNatClampNeg) ht hRel
        have mt_c := tX11_mean e_c
        have mt_r := tX12_mean e_r
        have k_c : am_n gc ≤ am_n gc1 ∧ am_s gc ≤ am_s gc1 := mt_c.1
        have k_r : am_n gr ≤ am_n gr1 ∧ am_s gr ≤ am_s gr1 := mt_r.1
        have hn1 := hN.1 (t + 1) gc1 gr1 (by omega) hRel1
        refine lv_aload_n hx hb dL_827 rfl (lv_at hl 1 rfl) ?_
        refine lv_aload_n hx hb dL_828 rfl (lv_at hl 0 rfl) ?_
        refine lv_iload_n hx hb dL_829 rfl (lv_at hl 3 rfl) ?_
        refine lv_iconst (v := nI 1) hx hb dL_830 rfl ?_
        refine lv_iadd hx hb dL_831 ?_
        refine va_sld hx hb hX hbl hbA hS (hix 1 (by decide)) dL_832 ?_
        refine lw_call (Z := zc) (g1 := gc1) (v := v) (as := [.int (xs (nI (6 * t) + nI 1).toNatClampNeg)]) (rest := []) (ci := 11) (len := 17) htsW hx hb hml hown hXX hOO mt_c okc hP hD hS hl mo_X11_mean (am_mem4 39 (by decide +kernel)) ki_X11_mean kv_X11_mean (fun _ => rfl) ⟨trivial, trivial⟩ (okc.2.1 0 _ rfl) (by decide) rfl (Nat.le_of_ble_eq_true rfl) (by decide) (by omega) (by omega) dL_833 _ (by rw [e0]; rfl) (fun αc1 H locs okc1 hP hD hS e2 => ?_)
        refine lv_aload_n hx hb dL_836 rfl (lv_at hl 2 rfl) ?_
        refine lv_aload_n hx hb dL_837 rfl (lv_at hl 0 rfl) ?_
        refine lv_iload_n hx hb dL_838 rfl (lv_at hl 3 rfl) ?_
        refine lv_iconst (v := nI 1) hx hb dL_839 rfl ?_
        refine lv_iadd hx hb dL_840 ?_
        refine va_sld hx hb hX hbl hbA hS (hix 1 (by decide)) dL_841 ?_
        refine lw_call (Z := zr) (g1 := gr1) (v := v) (as := [.int (xs (nI (6 * t) + nI 1).toNatClampNeg)]) (rest := [.int v]) (ci := 12) (len := 64) htsW hx hb hml hown hXX hOO mt_r okr (lw_swP hP) (lw_swD hD) hS hl mo_X12_mean (am_mem7 86 (by decide +kernel)) ki_X12_mean kv_X12_mean (fun _ => rfl) ⟨trivial, trivial⟩ (okr.2.1 0 _ rfl) (by decide) rfl (Nat.le_of_ble_eq_true rfl) (by decide) (by omega) (by omega) dL_842 _ (by rw [e1]; rfl) (fun αr1 H locs okr1 hP hD hS e3 => ?_)
        refine lv_icmp_eq (tgt := 1331) hx hb dL_845 (by decide) (fun _ => ?_) (fun z => absurd rfl z)
        refine W.cs (cells' := am_n gc1 + am_n gr1) (slots' := am_s gc1 + am_s gr1) (by omega) (by omega) ?_
        exact next gc1 gr1 αc1 αr1 H locs hRel1 (e2.trans e0) (e3.trans e1) okc1 okr1 (lw_swP hP) (lw_swD hD) hS
      by_cases c_22 : x = (22 : Int32)
      · refine lv_tableIn (tgt := 850) hx hb dL_33 (by rw [c_22]; decide) (by rw [c_22]; decide) (by rw [c_22]; rfl) (by decide) ?_
        obtain ⟨v, gc1, gr1, e_c, e_r, hRel1⟩ := h_22 t gc gr ht hRel
        have mt_c := tX11_hush e_c
        have mt_r := tX12_hush e_r
        have k_c : am_n gc ≤ am_n gc1 ∧ am_s gc ≤ am_s gc1 := mt_c.1
        have k_r : am_n gr ≤ am_n gr1 ∧ am_s gr ≤ am_s gr1 := mt_r.1
        have hn1 := hN.1 (t + 1) gc1 gr1 (by omega) hRel1
        refine lv_aload_n hx hb dL_850 rfl (lv_at hl 1 rfl) ?_
        refine lw_call (Z := zc) (g1 := gc1) (v := v) (as := []) (rest := []) (ci := 11) (len := 17) htsW hx hb hml hown hXX hOO mt_c okc hP hD hS hl mo_X11_hush (am_mem4 43 (by decide +kernel)) ki_X11_hush kv_X11_hush (fun _ => rfl) trivial (okc.2.1 0 _ rfl) (by decide) rfl (Nat.le_of_ble_eq_true rfl) (by decide) (by omega) (by omega) dL_851 _ (by rw [e0]; rfl) (fun αc1 H locs okc1 hP hD hS e2 => ?_)
        refine lv_aload_n hx hb dL_854 rfl (lv_at hl 2 rfl) ?_
        refine lw_call (Z := zr) (g1 := gr1) (v := v) (as := []) (rest := [.int v]) (ci := 12) (len := 64) htsW hx hb hml hown hXX hOO mt_r okr (lw_swP hP) (lw_swD hD) hS hl mo_X12_hush (am_mem7 90 (by decide +kernel)) ki_X12_hush kv_X12_hush (fun _ => rfl) trivial (okr.2.1 0 _ rfl) (by decide) rfl (Nat.le_of_ble_eq_true rfl) (by decide) (by omega) (by omega) dL_855 _ (by rw [e1]; rfl) (fun αr1 H locs okr1 hP hD hS e3 => ?_)
        refine lv_icmp_eq (tgt := 1331) hx hb dL_858 (by decide) (fun _ => ?_) (fun z => absurd rfl z)
        refine W.cs (cells' := am_n gc1 + am_n gr1) (slots' := am_s gc1 + am_s gr1) (by omega) (by omega) ?_
        exact next gc1 gr1 αc1 αr1 H locs hRel1 (e2.trans e0) (e3.trans e1) okc1 okr1 (lw_swP hP) (lw_swD hD) hS
      by_cases c_23 : x = (23 : Int32)
      · refine lv_tableIn (tgt := 863) hx hb dL_33 (by rw [c_23]; decide) (by rw [c_23]; decide) (by rw [c_23]; rfl) (by decide) ?_
        obtain ⟨v, gc1, gr1, e_c, e_r, hRel1⟩ := h_23 t gc gr (xs (nI (6 * t) + nI 1).toNatClampNeg) (xs (nI (6 * t) + nI 2).toNatClampNeg) (xs (nI (6 * t) + nI 3).toNatClampNeg) ht hRel
        have mt_c := tX11_saying e_c
        have mt_r := tX12_saying e_r
        have k_c : am_n gc ≤ am_n gc1 ∧ am_s gc ≤ am_s gc1 := mt_c.1
        have k_r : am_n gr ≤ am_n gr1 ∧ am_s gr ≤ am_s gr1 := mt_r.1
        have hn1 := hN.1 (t + 1) gc1 gr1 (by omega) hRel1
        refine lv_aload_n hx hb dL_863 rfl (lv_at hl 1 rfl) ?_
        refine lv_aload_n hx hb dL_864 rfl (lv_at hl 0 rfl) ?_
        refine lv_iload_n hx hb dL_865 rfl (lv_at hl 3 rfl) ?_
        refine lv_iconst (v := nI 1) hx hb dL_866 rfl ?_
        refine lv_iadd hx hb dL_867 ?_
        refine va_sld hx hb hX hbl hbA hS (hix 1 (by decide)) dL_868 ?_
        refine lv_aload_n hx hb dL_869 rfl (lv_at hl 0 rfl) ?_
        refine lv_iload_n hx hb dL_870 rfl (lv_at hl 3 rfl) ?_
        refine lv_iconst (v := nI 2) hx hb dL_871 rfl ?_
        refine lv_iadd hx hb dL_872 ?_
        refine va_sld hx hb hX hbl hbA hS (hix 2 (by decide)) dL_873 ?_
        refine lv_aload_n hx hb dL_874 rfl (lv_at hl 0 rfl) ?_
        refine lv_iload_n hx hb dL_875 rfl (lv_at hl 3 rfl) ?_
        refine lv_iconst (v := nI 3) hx hb dL_876 rfl ?_
        refine lv_iadd hx hb dL_877 ?_
        refine va_sld hx hb hX hbl hbA hS (hix 3 (by decide)) dL_878 ?_
        refine lw_call (Z := zc) (g1 := gc1) (v := v) (as := [.int (xs (nI (6 * t) + nI 1).toNatClampNeg), .int (xs (nI (6 * t) + nI 2).toNatClampNeg), .int (xs (nI (6 * t) + nI 3).toNatClampNeg)]) (rest := []) (ci := 11) (len := 17) htsW hx hb hml hown hXX hOO mt_c okc hP hD hS hl mo_X11_saying (am_mem4 47 (by decide +kernel)) ki_X11_saying kv_X11_saying (fun _ => rfl) ⟨trivial, trivial, trivial, trivial⟩ (okc.2.1 0 _ rfl) (by decide) rfl (Nat.le_of_ble_eq_true rfl) (by decide) (by omega) (by omega) dL_879 _ (by rw [e0]; rfl) (fun αc1 H locs okc1 hP hD hS e2 => ?_)
        refine lv_aload_n hx hb dL_882 rfl (lv_at hl 2 rfl) ?_
        refine lv_aload_n hx hb dL_883 rfl (lv_at hl 0 rfl) ?_
        refine lv_iload_n hx hb dL_884 rfl (lv_at hl 3 rfl) ?_
        refine lv_iconst (v := nI 1) hx hb dL_885 rfl ?_
        refine lv_iadd hx hb dL_886 ?_
        refine va_sld hx hb hX hbl hbA hS (hix 1 (by decide)) dL_887 ?_
        refine lv_aload_n hx hb dL_888 rfl (lv_at hl 0 rfl) ?_
        refine lv_iload_n hx hb dL_889 rfl (lv_at hl 3 rfl) ?_
        refine lv_iconst (v := nI 2) hx hb dL_890 rfl ?_
        refine lv_iadd hx hb dL_891 ?_
        refine va_sld hx hb hX hbl hbA hS (hix 2 (by decide)) dL_892 ?_
        refine lv_aload_n hx hb dL_893 rfl (lv_at hl 0 rfl) ?_
        refine lv_iload_n hx hb dL_894 rfl (lv_at hl 3 rfl) ?_
        refine lv_iconst (v := nI 3) hx hb dL_895 rfl ?_
        refine lv_iadd hx hb dL_896 ?_
        refine va_sld hx hb hX hbl hbA hS (hix 3 (by decide)) dL_897 ?_
        refine lw_call (Z := zr) (g1 := gr1) (v := v) (as := [.int (xs (nI (6 * t) + nI 1).toNatClampNeg), .int (xs (nI (6 * t) + nI 2).toNatClampNeg), .int (xs (nI (6 * t) + nI 3).toNatClampNeg)]) (rest := [.int v]) (ci := 12) (len := 64) htsW hx hb hml hown hXX hOO mt_r okr (lw_swP hP) (lw_swD hD) hS hl mo_X12_saying (am_mem7 94 (by decide +kernel)) ki_X12_saying kv_X12_saying (fun _ => rfl) ⟨trivial, trivial, trivial, trivial⟩ (okr.2.1 0 _ rfl) (by decide) rfl (Nat.le_of_ble_eq_true rfl) (by decide) (by omega) (by omega) dL_898 _ (by rw [e1]; rfl) (fun αr1 H locs okr1 hP hD hS e3 => ?_)
        refine lv_icmp_eq (tgt := 1331) hx hb dL_901 (by decide) (fun _ => ?_) (fun z => absurd rfl z)
        refine W.cs (cells' := am_n gc1 + am_n gr1) (slots' := am_s gc1 + am_s gr1) (by omega) (by omega) ?_
        exact next gc1 gr1 αc1 αr1 H locs hRel1 (e2.trans e0) (e3.trans e1) okc1 okr1 (lw_swP hP) (lw_swD hD) hS
      by_cases c_24 : x = (24 : Int32)
      · refine lv_tableIn (tgt := 906) hx hb dL_33 (by rw [c_24]; decide) (by rw [c_24]; decide) (by rw [c_24]; rfl) (by decide) ?_
        obtain ⟨v, gc1, gr1, e_c, e_r, hRel1⟩ := h_24 t gc gr (xs (nI (6 * t) + nI 1).toNatClampNeg) (xs (nI (6 * t) + nI 2).toNatClampNeg) (xs (nI (6 * t) + nI 3).toNatClampNeg) ht hRel
        have mt_c := tX11_talk e_c
        have mt_r := tX12_talk e_r
        have k_c : am_n gc ≤ am_n gc1 ∧ am_s gc ≤ am_s gc1 := mt_c.1
        have k_r : am_n gr ≤ am_n gr1 ∧ am_s gr ≤ am_s gr1 := mt_r.1
        have hn1 := hN.1 (t + 1) gc1 gr1 (by omega) hRel1
        refine lv_aload_n hx hb dL_906 rfl (lv_at hl 1 rfl) ?_
        refine lv_aload_n hx hb dL_907 rfl (lv_at hl 0 rfl) ?_
        refine lv_iload_n hx hb dL_908 rfl (lv_at hl 3 rfl) ?_
        refine lv_iconst (v := nI 1) hx hb dL_909 rfl ?_
        refine lv_iadd hx hb dL_910 ?_
        refine va_sld hx hb hX hbl hbA hS (hix 1 (by decide)) dL_911 ?_
        refine lv_aload_n hx hb dL_912 rfl (lv_at hl 0 rfl) ?_
        refine lv_iload_n hx hb dL_913 rfl (lv_at hl 3 rfl) ?_
        refine lv_iconst (v := nI 2) hx hb dL_914 rfl ?_
        refine lv_iadd hx hb dL_915 ?_
        refine va_sld hx hb hX hbl hbA hS (hix 2 (by decide)) dL_916 ?_
        refine lv_aload_n hx hb dL_917 rfl (lv_at hl 0 rfl) ?_
        refine lv_iload_n hx hb dL_918 rfl (lv_at hl 3 rfl) ?_
        refine lv_iconst (v := nI 3) hx hb dL_919 rfl ?_
        refine lv_iadd hx hb dL_920 ?_
        refine va_sld hx hb hX hbl hbA hS (hix 3 (by decide)) dL_921 ?_
        refine lw_call (Z := zc) (g1 := gc1) (v := v) (as := [.int (xs (nI (6 * t) + nI 1).toNatClampNeg), .int (xs (nI (6 * t) + nI 2).toNatClampNeg), .int (xs (nI (6 * t) + nI 3).toNatClampNeg)]) (rest := []) (ci := 11) (len := 17) htsW hx hb hml hown hXX hOO mt_c okc hP hD hS hl mo_X11_talk (am_mem4 83 (by decide +kernel)) ki_X11_talk kv_X11_talk (fun _ => rfl) ⟨trivial, trivial, trivial, trivial⟩ (okc.2.1 0 _ rfl) (by decide) rfl (Nat.le_of_ble_eq_true rfl) (by decide) (by omega) (by omega) dL_922 _ (by rw [e0]; rfl) (fun αc1 H locs okc1 hP hD hS e2 => ?_)
        refine lv_aload_n hx hb dL_925 rfl (lv_at hl 2 rfl) ?_
        refine lv_aload_n hx hb dL_926 rfl (lv_at hl 0 rfl) ?_
        refine lv_iload_n hx hb dL_927 rfl (lv_at hl 3 rfl) ?_
        refine lv_iconst (v := nI 1) hx hb dL_928 rfl ?_
        refine lv_iadd hx hb dL_929 ?_
        refine va_sld hx hb hX hbl hbA hS (hix 1 (by decide)) dL_930 ?_
        refine lv_aload_n hx hb dL_931 rfl (lv_at hl 0 rfl) ?_
        refine lv_iload_n hx hb dL_932 rfl (lv_at hl 3 rfl) ?_
        refine lv_iconst (v := nI 2) hx hb dL_933 rfl ?_
        refine lv_iadd hx hb dL_934 ?_
        refine va_sld hx hb hX hbl hbA hS (hix 2 (by decide)) dL_935 ?_
        refine lv_aload_n hx hb dL_936 rfl (lv_at hl 0 rfl) ?_
        refine lv_iload_n hx hb dL_937 rfl (lv_at hl 3 rfl) ?_
        refine lv_iconst (v := nI 3) hx hb dL_938 rfl ?_
        refine lv_iadd hx hb dL_939 ?_
        refine va_sld hx hb hX hbl hbA hS (hix 3 (by decide)) dL_940 ?_
        refine lw_call (Z := zr) (g1 := gr1) (v := v) (as := [.int (xs (nI (6 * t) + nI 1).toNatClampNeg), .int (xs (nI (6 * t) + nI 2).toNatClampNeg), .int (xs (nI (6 * t) + nI 3).toNatClampNeg)]) (rest := [.int v]) (ci := 12) (len := 64) htsW hx hb hml hown hXX hOO mt_r okr (lw_swP hP) (lw_swD hD) hS hl mo_X12_talk (am_mem7 107 (by decide +kernel)) ki_X12_talk kv_X12_talk (fun _ => rfl) ⟨trivial, trivial, trivial, trivial⟩ (okr.2.1 0 _ rfl) (by decide) rfl (Nat.le_of_ble_eq_true rfl) (by decide) (by omega) (by omega) dL_941 _ (by rw [e1]; rfl) (fun αr1 H locs okr1 hP hD hS e3 => ?_)
        refine lv_icmp_eq (tgt := 1331) hx hb dL_944 (by decide) (fun _ => ?_) (fun z => absurd rfl z)
        refine W.cs (cells' := am_n gc1 + am_n gr1) (slots' := am_s gc1 + am_s gr1) (by omega) (by omega) ?_
        exact next gc1 gr1 αc1 αr1 H locs hRel1 (e2.trans e0) (e3.trans e1) okc1 okr1 (lw_swP hP) (lw_swD hD) hS
      by_cases c_25 : x = (25 : Int32)
      · refine lv_tableIn (tgt := 949) hx hb dL_33 (by rw [c_25]; decide) (by rw [c_25]; decide) (by rw [c_25]; rfl) (by decide) ?_
        obtain ⟨v, gc1, gr1, e_c, e_r, hRel1⟩ := h_25 t gc gr ht hRel
        have mt_c := tX11_cancel e_c
        have mt_r := tX12_cancel e_r
        have k_c : am_n gc ≤ am_n gc1 ∧ am_s gc ≤ am_s gc1 := mt_c.1
        have k_r : am_n gr ≤ am_n gr1 ∧ am_s gr ≤ am_s gr1 := mt_r.1
        have hn1 := hN.1 (t + 1) gc1 gr1 (by omega) hRel1
        refine lv_aload_n hx hb dL_949 rfl (lv_at hl 1 rfl) ?_
        refine lw_call (Z := zc) (g1 := gc1) (v := v) (as := []) (rest := []) (ci := 11) (len := 17) htsW hx hb hml hown hXX hOO mt_c okc hP hD hS hl mo_X11_cancel (am_mem4 87 (by decide +kernel)) ki_X11_cancel kv_X11_cancel (fun _ => rfl) trivial (okc.2.1 0 _ rfl) (by decide) rfl (Nat.le_of_ble_eq_true rfl) (by decide) (by omega) (by omega) dL_950 _ (by rw [e0]; rfl) (fun αc1 H locs okc1 hP hD hS e2 => ?_)
        refine lv_aload_n hx hb dL_953 rfl (lv_at hl 2 rfl) ?_
        refine lw_call (Z := zr) (g1 := gr1) (v := v) (as := []) (rest := [.int v]) (ci := 12) (len := 64) htsW hx hb hml hown hXX hOO mt_r okr (lw_swP hP) (lw_swD hD) hS hl mo_X12_cancel (am_mem7 111 (by decide +kernel)) ki_X12_cancel kv_X12_cancel (fun _ => rfl) trivial (okr.2.1 0 _ rfl) (by decide) rfl (Nat.le_of_ble_eq_true rfl) (by decide) (by omega) (by omega) dL_954 _ (by rw [e1]; rfl) (fun αr1 H locs okr1 hP hD hS e3 => ?_)
        refine lv_icmp_eq (tgt := 1331) hx hb dL_957 (by decide) (fun _ => ?_) (fun z => absurd rfl z)
        refine W.cs (cells' := am_n gc1 + am_n gr1) (slots' := am_s gc1 + am_s gr1) (by omega) (by omega) ?_
        exact next gc1 gr1 αc1 αr1 H locs hRel1 (e2.trans e0) (e3.trans e1) okc1 okr1 (lw_swP hP) (lw_swD hD) hS
      by_cases c_26 : x = (26 : Int32)
      · refine lv_tableIn (tgt := 962) hx hb dL_33 (by rw [c_26]; decide) (by rw [c_26]; decide) (by rw [c_26]; rfl) (by decide) ?_
        obtain ⟨v, gc1, gr1, e_c, e_r, hRel1⟩ := h_26 t gc gr (xs (nI (6 * t) + nI 1).toNatClampNeg) (xs (nI (6 * t) + nI 2).toNatClampNeg) ht hRel
        have mt_c := tX11_plan e_c
        have mt_r := tX12_plan e_r
        have k_c : am_n gc ≤ am_n gc1 ∧ am_s gc ≤ am_s gc1 := mt_c.1
        have k_r : am_n gr ≤ am_n gr1 ∧ am_s gr ≤ am_s gr1 := mt_r.1
        have hn1 := hN.1 (t + 1) gc1 gr1 (by omega) hRel1
        refine lv_aload_n hx hb dL_962 rfl (lv_at hl 1 rfl) ?_
        refine lv_aload_n hx hb dL_963 rfl (lv_at hl 0 rfl) ?_
        refine lv_iload_n hx hb dL_964 rfl (lv_at hl 3 rfl) ?_
        refine lv_iconst (v := nI 1) hx hb dL_965 rfl ?_
        refine lv_iadd hx hb dL_966 ?_
        refine va_sld hx hb hX hbl hbA hS (hix 1 (by decide)) dL_967 ?_
        refine lv_aload_n hx hb dL_968 rfl (lv_at hl 0 rfl) ?_
        refine lv_iload_n hx hb dL_969 rfl (lv_at hl 3 rfl) ?_
        refine lv_iconst (v := nI 2) hx hb dL_970 rfl ?_
        refine lv_iadd hx hb dL_971 ?_
        refine va_sld hx hb hX hbl hbA hS (hix 2 (by decide)) dL_972 ?_
        refine lw_call (Z := zc) (g1 := gc1) (v := v) (as := [.int (xs (nI (6 * t) + nI 1).toNatClampNeg), .int (xs (nI (6 * t) + nI 2).toNatClampNeg)]) (rest := []) (ci := 11) (len := 17) htsW hx hb hml hown hXX hOO mt_c okc hP hD hS hl mo_X11_plan (am_mem4 91 (by decide +kernel)) ki_X11_plan kv_X11_plan (fun _ => rfl) ⟨trivial, trivial, trivial⟩ (okc.2.1 0 _ rfl) (by decide) rfl (Nat.le_of_ble_eq_true rfl) (by decide) (by omega) (by omega) dL_973 _ (by rw [e0]; rfl) (fun αc1 H locs okc1 hP hD hS e2 => ?_)
        refine lv_aload_n hx hb dL_976 rfl (lv_at hl 2 rfl) ?_
        refine lv_aload_n hx hb dL_977 rfl (lv_at hl 0 rfl) ?_
        refine lv_iload_n hx hb dL_978 rfl (lv_at hl 3 rfl) ?_
        refine lv_iconst (v := nI 1) hx hb dL_979 rfl ?_
        refine lv_iadd hx hb dL_980 ?_
        refine va_sld hx hb hX hbl hbA hS (hix 1 (by decide)) dL_981 ?_
        refine lv_aload_n hx hb dL_982 rfl (lv_at hl 0 rfl) ?_
        refine lv_iload_n hx hb dL_983 rfl (lv_at hl 3 rfl) ?_
        refine lv_iconst (v := nI 2) hx hb dL_984 rfl ?_
        refine lv_iadd hx hb dL_985 ?_
        refine va_sld hx hb hX hbl hbA hS (hix 2 (by decide)) dL_986 ?_
        refine lw_call (Z := zr) (g1 := gr1) (v := v) (as := [.int (xs (nI (6 * t) + nI 1).toNatClampNeg), .int (xs (nI (6 * t) + nI 2).toNatClampNeg)]) (rest := [.int v]) (ci := 12) (len := 64) htsW hx hb hml hown hXX hOO mt_r okr (lw_swP hP) (lw_swD hD) hS hl mo_X12_plan (am_mem7 115 (by decide +kernel)) ki_X12_plan kv_X12_plan (fun _ => rfl) ⟨trivial, trivial, trivial⟩ (okr.2.1 0 _ rfl) (by decide) rfl (Nat.le_of_ble_eq_true rfl) (by decide) (by omega) (by omega) dL_987 _ (by rw [e1]; rfl) (fun αr1 H locs okr1 hP hD hS e3 => ?_)
        refine lv_icmp_eq (tgt := 1331) hx hb dL_990 (by decide) (fun _ => ?_) (fun z => absurd rfl z)
        refine W.cs (cells' := am_n gc1 + am_n gr1) (slots' := am_s gc1 + am_s gr1) (by omega) (by omega) ?_
        exact next gc1 gr1 αc1 αr1 H locs hRel1 (e2.trans e0) (e3.trans e1) okc1 okr1 (lw_swP hP) (lw_swD hD) hS
      by_cases c_27 : x = (27 : Int32)
      · refine lv_tableIn (tgt := 995) hx hb dL_33 (by rw [c_27]; decide) (by rw [c_27]; decide) (by rw [c_27]; rfl) (by decide) ?_
        obtain ⟨v, gc1, gr1, e_c, e_r, hRel1⟩ := h_27 t gc gr (xs (nI (6 * t) + nI 1).toNatClampNeg) (xs (nI (6 * t) + nI 2).toNatClampNeg) (xs (nI (6 * t) + nI 3).toNatClampNeg) ht hRel
        have mt_c := tX11_bring e_c
        have mt_r := tX12_bring e_r
        have k_c : am_n gc ≤ am_n gc1 ∧ am_s gc ≤ am_s gc1 := mt_c.1
        have k_r : am_n gr ≤ am_n gr1 ∧ am_s gr ≤ am_s gr1 := mt_r.1
        have hn1 := hN.1 (t + 1) gc1 gr1 (by omega) hRel1
        refine lv_aload_n hx hb dL_995 rfl (lv_at hl 1 rfl) ?_
        refine lv_aload_n hx hb dL_996 rfl (lv_at hl 0 rfl) ?_
        refine lv_iload_n hx hb dL_997 rfl (lv_at hl 3 rfl) ?_
        refine lv_iconst (v := nI 1) hx hb dL_998 rfl ?_
        refine lv_iadd hx hb dL_999 ?_
        refine va_sld hx hb hX hbl hbA hS (hix 1 (by decide)) dL_1000 ?_
        refine lv_aload_n hx hb dL_1001 rfl (lv_at hl 0 rfl) ?_
        refine lv_iload_n hx hb dL_1002 rfl (lv_at hl 3 rfl) ?_
        refine lv_iconst (v := nI 2) hx hb dL_1003 rfl ?_
        refine lv_iadd hx hb dL_1004 ?_
        refine va_sld hx hb hX hbl hbA hS (hix 2 (by decide)) dL_1005 ?_
        refine lv_aload_n hx hb dL_1006 rfl (lv_at hl 0 rfl) ?_
        refine lv_iload_n hx hb dL_1007 rfl (lv_at hl 3 rfl) ?_
        refine lv_iconst (v := nI 3) hx hb dL_1008 rfl ?_
        refine lv_iadd hx hb dL_1009 ?_
        refine va_sld hx hb hX hbl hbA hS (hix 3 (by decide)) dL_1010 ?_
        refine lw_call (Z := zc) (g1 := gc1) (v := v) (as := [.int (xs (nI (6 * t) + nI 1).toNatClampNeg), .int (xs (nI (6 * t) + nI 2).toNatClampNeg), .int (xs (nI (6 * t) + nI 3).toNatClampNeg)]) (rest := []) (ci := 11) (len := 17) htsW hx hb hml hown hXX hOO mt_c okc hP hD hS hl mo_X11_bring (am_mem4 126 (by decide +kernel)) ki_X11_bring kv_X11_bring (fun _ => rfl) ⟨trivial, trivial, trivial, trivial⟩ (okc.2.1 0 _ rfl) (by decide) rfl (Nat.le_of_ble_eq_true rfl) (by decide) (by omega) (by omega) dL_1011 _ (by rw [e0]; rfl) (fun αc1 H locs okc1 hP hD hS e2 => ?_)
        refine lv_aload_n hx hb dL_1014 rfl (lv_at hl 2 rfl) ?_
        refine lv_aload_n hx hb dL_1015 rfl (lv_at hl 0 rfl) ?_
        refine lv_iload_n hx hb dL_1016 rfl (lv_at hl 3 rfl) ?_
        refine lv_iconst (v := nI 1) hx hb dL_1017 rfl ?_
        refine lv_iadd hx hb dL_1018 ?_
        refine va_sld hx hb hX hbl hbA hS (hix 1 (by decide)) dL_1019 ?_
        refine lv_aload_n hx hb dL_1020 rfl (lv_at hl 0 rfl) ?_
        refine lv_iload_n hx hb dL_1021 rfl (lv_at hl 3 rfl) ?_
        refine lv_iconst (v := nI 2) hx hb dL_1022 rfl ?_
        refine lv_iadd hx hb dL_1023 ?_
        refine va_sld hx hb hX hbl hbA hS (hix 2 (by decide)) dL_1024 ?_
        refine lv_aload_n hx hb dL_1025 rfl (lv_at hl 0 rfl) ?_
        refine lv_iload_n hx hb dL_1026 rfl (lv_at hl 3 rfl) ?_
        refine lv_iconst (v := nI 3) hx hb dL_1027 rfl ?_
        refine lv_iadd hx hb dL_1028 ?_
        refine va_sld hx hb hX hbl hbA hS (hix 3 (by decide)) dL_1029 ?_
        refine lw_call (Z := zr) (g1 := gr1) (v := v) (as := [.int (xs (nI (6 * t) + nI 1).toNatClampNeg), .int (xs (nI (6 * t) + nI 2).toNatClampNeg), .int (xs (nI (6 * t) + nI 3).toNatClampNeg)]) (rest := [.int v]) (ci := 12) (len := 64) htsW hx hb hml hown hXX hOO mt_r okr (lw_swP hP) (lw_swD hD) hS hl mo_X12_bring (am_mem7 123 (by decide +kernel)) ki_X12_bring kv_X12_bring (fun _ => rfl) ⟨trivial, trivial, trivial, trivial⟩ (okr.2.1 0 _ rfl) (by decide) rfl (Nat.le_of_ble_eq_true rfl) (by decide) (by omega) (by omega) dL_1030 _ (by rw [e1]; rfl) (fun αr1 H locs okr1 hP hD hS e3 => ?_)
        refine lv_icmp_eq (tgt := 1331) hx hb dL_1033 (by decide) (fun _ => ?_) (fun z => absurd rfl z)
        refine W.cs (cells' := am_n gc1 + am_n gr1) (slots' := am_s gc1 + am_s gr1) (by omega) (by omega) ?_
        exact next gc1 gr1 αc1 αr1 H locs hRel1 (e2.trans e0) (e3.trans e1) okc1 okr1 (lw_swP hP) (lw_swD hD) hS
      by_cases c_28 : x = (28 : Int32)
      · refine lv_tableIn (tgt := 1038) hx hb dL_33 (by rw [c_28]; decide) (by rw [c_28]; decide) (by rw [c_28]; rfl) (by decide) ?_
        obtain ⟨v, gc1, gr1, e_c, e_r, hRel1⟩ := h_28 t gc gr (xs (nI (6 * t) + nI 1).toNatClampNeg) (xs (nI (6 * t) + nI 2).toNatClampNeg) (xs (nI (6 * t) + nI 3).toNatClampNeg) ht hRel
        have mt_c := tX11_threat e_c
        have mt_r := tX12_threat e_r
        have k_c : am_n gc ≤ am_n gc1 ∧ am_s gc ≤ am_s gc1 := mt_c.1
        have k_r : am_n gr ≤ am_n gr1 ∧ am_s gr ≤ am_s gr1 := mt_r.1
        have hn1 := hN.1 (t + 1) gc1 gr1 (by omega) hRel1
        refine lv_aload_n hx hb dL_1038 rfl (lv_at hl 1 rfl) ?_
        refine lv_aload_n hx hb dL_1039 rfl (lv_at hl 0 rfl) ?_
        refine lv_iload_n hx hb dL_1040 rfl (lv_at hl 3 rfl) ?_
        refine lv_iconst (v := nI 1) hx hb dL_1041 rfl ?_
        refine lv_iadd hx hb dL_1042 ?_
        refine va_sld hx hb hX hbl hbA hS (hix 1 (by decide)) dL_1043 ?_
        refine lv_aload_n hx hb dL_1044 rfl (lv_at hl 0 rfl) ?_
        refine lv_iload_n hx hb dL_1045 rfl (lv_at hl 3 rfl) ?_
        refine lv_iconst (v := nI 2) hx hb dL_1046 rfl ?_
        refine lv_iadd hx hb dL_1047 ?_
        refine va_sld hx hb hX hbl hbA hS (hix 2 (by decide)) dL_1048 ?_
        refine lv_aload_n hx hb dL_1049 rfl (lv_at hl 0 rfl) ?_
        refine lv_iload_n hx hb dL_1050 rfl (lv_at hl 3 rfl) ?_
        refine lv_iconst (v := nI 3) hx hb dL_1051 rfl ?_
        refine lv_iadd hx hb dL_1052 ?_
        refine va_sld hx hb hX hbl hbA hS (hix 3 (by decide)) dL_1053 ?_
        refine lw_call (Z := zc) (g1 := gc1) (v := v) (as := [.int (xs (nI (6 * t) + nI 1).toNatClampNeg), .int (xs (nI (6 * t) + nI 2).toNatClampNeg), .int (xs (nI (6 * t) + nI 3).toNatClampNeg)]) (rest := []) (ci := 11) (len := 17) htsW hx hb hml hown hXX hOO mt_c okc hP hD hS hl mo_X11_threat (am_mem4 168 (by decide +kernel)) ki_X11_threat kv_X11_threat (fun _ => rfl) ⟨trivial, trivial, trivial, trivial⟩ (okc.2.1 0 _ rfl) (by decide) rfl (Nat.le_of_ble_eq_true rfl) (by decide) (by omega) (by omega) dL_1054 _ (by rw [e0]; rfl) (fun αc1 H locs okc1 hP hD hS e2 => ?_)
        refine lv_aload_n hx hb dL_1057 rfl (lv_at hl 2 rfl) ?_
        refine lv_aload_n hx hb dL_1058 rfl (lv_at hl 0 rfl) ?_
        refine lv_iload_n hx hb dL_1059 rfl (lv_at hl 3 rfl) ?_
        refine lv_iconst (v := nI 1) hx hb dL_1060 rfl ?_
        refine lv_iadd hx hb dL_1061 ?_
        refine va_sld hx hb hX hbl hbA hS (hix 1 (by decide)) dL_1062 ?_
        refine lv_aload_n hx hb dL_1063 rfl (lv_at hl 0 rfl) ?_
        refine lv_iload_n hx hb dL_1064 rfl (lv_at hl 3 rfl) ?_
        refine lv_iconst (v := nI 2) hx hb dL_1065 rfl ?_
        refine lv_iadd hx hb dL_1066 ?_
        refine va_sld hx hb hX hbl hbA hS (hix 2 (by decide)) dL_1067 ?_
        refine lv_aload_n hx hb dL_1068 rfl (lv_at hl 0 rfl) ?_
        refine lv_iload_n hx hb dL_1069 rfl (lv_at hl 3 rfl) ?_
        refine lv_iconst (v := nI 3) hx hb dL_1070 rfl ?_
        refine lv_iadd hx hb dL_1071 ?_
        refine va_sld hx hb hX hbl hbA hS (hix 3 (by decide)) dL_1072 ?_
        refine lw_call (Z := zr) (g1 := gr1) (v := v) (as := [.int (xs (nI (6 * t) + nI 1).toNatClampNeg), .int (xs (nI (6 * t) + nI 2).toNatClampNeg), .int (xs (nI (6 * t) + nI 3).toNatClampNeg)]) (rest := [.int v]) (ci := 12) (len := 64) htsW hx hb hml hown hXX hOO mt_r okr (lw_swP hP) (lw_swD hD) hS hl mo_X12_threat (am_mem7 136 (by decide +kernel)) ki_X12_threat kv_X12_threat (fun _ => rfl) ⟨trivial, trivial, trivial, trivial⟩ (okr.2.1 0 _ rfl) (by decide) rfl (Nat.le_of_ble_eq_true rfl) (by decide) (by omega) (by omega) dL_1073 _ (by rw [e1]; rfl) (fun αr1 H locs okr1 hP hD hS e3 => ?_)
        refine lv_icmp_eq (tgt := 1331) hx hb dL_1076 (by decide) (fun _ => ?_) (fun z => absurd rfl z)
        refine W.cs (cells' := am_n gc1 + am_n gr1) (slots' := am_s gc1 + am_s gr1) (by omega) (by omega) ?_
        exact next gc1 gr1 αc1 αr1 H locs hRel1 (e2.trans e0) (e3.trans e1) okc1 okr1 (lw_swP hP) (lw_swD hD) hS
      by_cases c_29 : x = (29 : Int32)
      · refine lv_tableIn (tgt := 1081) hx hb dL_33 (by rw [c_29]; decide) (by rw [c_29]; decide) (by rw [c_29]; rfl) (by decide) ?_
        obtain ⟨v, gc1, gr1, e_c, e_r, hRel1⟩ := h_29 t gc gr (xs (nI (6 * t) + nI 1).toNatClampNeg) (xs (nI (6 * t) + nI 2).toNatClampNeg) (xs (nI (6 * t) + nI 3).toNatClampNeg) ht hRel
        have mt_c := tX11_seen e_c
        have mt_r := tX12_seen e_r
        have k_c : am_n gc ≤ am_n gc1 ∧ am_s gc ≤ am_s gc1 := mt_c.1
        have k_r : am_n gr ≤ am_n gr1 ∧ am_s gr ≤ am_s gr1 := mt_r.1
        have hn1 := hN.1 (t + 1) gc1 gr1 (by omega) hRel1
        refine lv_aload_n hx hb dL_1081 rfl (lv_at hl 1 rfl) ?_
        refine lv_aload_n hx hb dL_1082 rfl (lv_at hl 0 rfl) ?_
        refine lv_iload_n hx hb dL_1083 rfl (lv_at hl 3 rfl) ?_
        refine lv_iconst (v := nI 1) hx hb dL_1084 rfl ?_
        refine lv_iadd hx hb dL_1085 ?_
        refine va_sld hx hb hX hbl hbA hS (hix 1 (by decide)) dL_1086 ?_
        refine lv_aload_n hx hb dL_1087 rfl (lv_at hl 0 rfl) ?_
        refine lv_iload_n hx hb dL_1088 rfl (lv_at hl 3 rfl) ?_
        refine lv_iconst (v := nI 2) hx hb dL_1089 rfl ?_
        refine lv_iadd hx hb dL_1090 ?_
        refine va_sld hx hb hX hbl hbA hS (hix 2 (by decide)) dL_1091 ?_
        refine lv_aload_n hx hb dL_1092 rfl (lv_at hl 0 rfl) ?_
        refine lv_iload_n hx hb dL_1093 rfl (lv_at hl 3 rfl) ?_
        refine lv_iconst (v := nI 3) hx hb dL_1094 rfl ?_
        refine lv_iadd hx hb dL_1095 ?_
        refine va_sld hx hb hX hbl hbA hS (hix 3 (by decide)) dL_1096 ?_
        refine lw_call (Z := zc) (g1 := gc1) (v := v) (as := [.int (xs (nI (6 * t) + nI 1).toNatClampNeg), .int (xs (nI (6 * t) + nI 2).toNatClampNeg), .int (xs (nI (6 * t) + nI 3).toNatClampNeg)]) (rest := []) (ci := 11) (len := 17) htsW hx hb hml hown hXX hOO mt_c okc hP hD hS hl mo_X11_seen (am_mem4 188 (by decide +kernel)) ki_X11_seen kv_X11_seen (fun _ => rfl) ⟨trivial, trivial, trivial, trivial⟩ (okc.2.1 0 _ rfl) (by decide) rfl (Nat.le_of_ble_eq_true rfl) (by decide) (by omega) (by omega) dL_1097 _ (by rw [e0]; rfl) (fun αc1 H locs okc1 hP hD hS e2 => ?_)
        refine lv_aload_n hx hb dL_1100 rfl (lv_at hl 2 rfl) ?_
        refine lv_aload_n hx hb dL_1101 rfl (lv_at hl 0 rfl) ?_
        refine lv_iload_n hx hb dL_1102 rfl (lv_at hl 3 rfl) ?_
        refine lv_iconst (v := nI 1) hx hb dL_1103 rfl ?_
        refine lv_iadd hx hb dL_1104 ?_
        refine va_sld hx hb hX hbl hbA hS (hix 1 (by decide)) dL_1105 ?_
        refine lv_aload_n hx hb dL_1106 rfl (lv_at hl 0 rfl) ?_
        refine lv_iload_n hx hb dL_1107 rfl (lv_at hl 3 rfl) ?_
        refine lv_iconst (v := nI 2) hx hb dL_1108 rfl ?_
        refine lv_iadd hx hb dL_1109 ?_
        refine va_sld hx hb hX hbl hbA hS (hix 2 (by decide)) dL_1110 ?_
        refine lv_aload_n hx hb dL_1111 rfl (lv_at hl 0 rfl) ?_
        refine lv_iload_n hx hb dL_1112 rfl (lv_at hl 3 rfl) ?_
        refine lv_iconst (v := nI 3) hx hb dL_1113 rfl ?_
        refine lv_iadd hx hb dL_1114 ?_
        refine va_sld hx hb hX hbl hbA hS (hix 3 (by decide)) dL_1115 ?_
        refine lw_call (Z := zr) (g1 := gr1) (v := v) (as := [.int (xs (nI (6 * t) + nI 1).toNatClampNeg), .int (xs (nI (6 * t) + nI 2).toNatClampNeg), .int (xs (nI (6 * t) + nI 3).toNatClampNeg)]) (rest := [.int v]) (ci := 12) (len := 64) htsW hx hb hml hown hXX hOO mt_r okr (lw_swP hP) (lw_swD hD) hS hl mo_X12_seen (am_mem7 144 (by decide +kernel)) ki_X12_seen kv_X12_seen (fun _ => rfl) ⟨trivial, trivial, trivial, trivial⟩ (okr.2.1 0 _ rfl) (by decide) rfl (Nat.le_of_ble_eq_true rfl) (by decide) (by omega) (by omega) dL_1116 _ (by rw [e1]; rfl) (fun αr1 H locs okr1 hP hD hS e3 => ?_)
        refine lv_icmp_eq (tgt := 1331) hx hb dL_1119 (by decide) (fun _ => ?_) (fun z => absurd rfl z)
        refine W.cs (cells' := am_n gc1 + am_n gr1) (slots' := am_s gc1 + am_s gr1) (by omega) (by omega) ?_
        exact next gc1 gr1 αc1 αr1 H locs hRel1 (e2.trans e0) (e3.trans e1) okc1 okr1 (lw_swP hP) (lw_swD hD) hS
      by_cases c_30 : x = (30 : Int32)
      · refine lv_tableIn (tgt := 1124) hx hb dL_33 (by rw [c_30]; decide) (by rw [c_30]; decide) (by rw [c_30]; rfl) (by decide) ?_
        obtain ⟨v, gc1, gr1, e_c, e_r, hRel1⟩ := h_30 t gc gr ht hRel
        have mt_c := tX11_forget e_c
        have mt_r := tX12_forget e_r
        have k_c : am_n gc ≤ am_n gc1 ∧ am_s gc ≤ am_s gc1 := mt_c.1
        have k_r : am_n gr ≤ am_n gr1 ∧ am_s gr ≤ am_s gr1 := mt_r.1
        have hn1 := hN.1 (t + 1) gc1 gr1 (by omega) hRel1
        refine lv_aload_n hx hb dL_1124 rfl (lv_at hl 1 rfl) ?_
        refine lw_call (Z := zc) (g1 := gc1) (v := v) (as := []) (rest := []) (ci := 11) (len := 17) htsW hx hb hml hown hXX hOO mt_c okc hP hD hS hl mo_X11_forget (am_mem4 192 (by decide +kernel)) ki_X11_forget kv_X11_forget (fun _ => rfl) trivial (okc.2.1 0 _ rfl) (by decide) rfl (Nat.le_of_ble_eq_true rfl) (by decide) (by omega) (by omega) dL_1125 _ (by rw [e0]; rfl) (fun αc1 H locs okc1 hP hD hS e2 => ?_)
        refine lv_aload_n hx hb dL_1128 rfl (lv_at hl 2 rfl) ?_
        refine lw_call (Z := zr) (g1 := gr1) (v := v) (as := []) (rest := [.int v]) (ci := 12) (len := 64) htsW hx hb hml hown hXX hOO mt_r okr (lw_swP hP) (lw_swD hD) hS hl mo_X12_forget (am_mem7 148 (by decide +kernel)) ki_X12_forget kv_X12_forget (fun _ => rfl) trivial (okr.2.1 0 _ rfl) (by decide) rfl (Nat.le_of_ble_eq_true rfl) (by decide) (by omega) (by omega) dL_1129 _ (by rw [e1]; rfl) (fun αr1 H locs okr1 hP hD hS e3 => ?_)
        refine lv_icmp_eq (tgt := 1331) hx hb dL_1132 (by decide) (fun _ => ?_) (fun z => absurd rfl z)
        refine W.cs (cells' := am_n gc1 + am_n gr1) (slots' := am_s gc1 + am_s gr1) (by omega) (by omega) ?_
        exact next gc1 gr1 αc1 αr1 H locs hRel1 (e2.trans e0) (e3.trans e1) okc1 okr1 (lw_swP hP) (lw_swD hD) hS
      by_cases c_31 : x = (31 : Int32)
      · refine lv_tableIn (tgt := 1137) hx hb dL_33 (by rw [c_31]; decide) (by rw [c_31]; decide) (by rw [c_31]; rfl) (by decide) ?_
        obtain ⟨v, gc1, gr1, e_c, e_r, hRel1⟩ := h_31 t gc gr (xs (nI (6 * t) + nI 1).toNatClampNeg) (xs (nI (6 * t) + nI 2).toNatClampNeg) ht hRel
        have mt_c := tX11_holds e_c
        have mt_r := tX12_holds e_r
        have k_c : am_n gc ≤ am_n gc1 ∧ am_s gc ≤ am_s gc1 := mt_c.1
        have k_r : am_n gr ≤ am_n gr1 ∧ am_s gr ≤ am_s gr1 := mt_r.1
        have hn1 := hN.1 (t + 1) gc1 gr1 (by omega) hRel1
        refine lv_aload_n hx hb dL_1137 rfl (lv_at hl 1 rfl) ?_
        refine lv_aload_n hx hb dL_1138 rfl (lv_at hl 0 rfl) ?_
        refine lv_iload_n hx hb dL_1139 rfl (lv_at hl 3 rfl) ?_
        refine lv_iconst (v := nI 1) hx hb dL_1140 rfl ?_
        refine lv_iadd hx hb dL_1141 ?_
        refine va_sld hx hb hX hbl hbA hS (hix 1 (by decide)) dL_1142 ?_
        refine lv_aload_n hx hb dL_1143 rfl (lv_at hl 0 rfl) ?_
        refine lv_iload_n hx hb dL_1144 rfl (lv_at hl 3 rfl) ?_
        refine lv_iconst (v := nI 2) hx hb dL_1145 rfl ?_
        refine lv_iadd hx hb dL_1146 ?_
        refine va_sld hx hb hX hbl hbA hS (hix 2 (by decide)) dL_1147 ?_
        refine lw_call (Z := zc) (g1 := gc1) (v := v) (as := [.int (xs (nI (6 * t) + nI 1).toNatClampNeg), .int (xs (nI (6 * t) + nI 2).toNatClampNeg)]) (rest := []) (ci := 11) (len := 17) htsW hx hb hml hown hXX hOO mt_c okc hP hD hS hl mo_X11_holds (am_mem4 196 (by decide +kernel)) ki_X11_holds kv_X11_holds (fun _ => rfl) ⟨trivial, trivial, trivial⟩ (okc.2.1 0 _ rfl) (by decide) rfl (Nat.le_of_ble_eq_true rfl) (by decide) (by omega) (by omega) dL_1148 _ (by rw [e0]; rfl) (fun αc1 H locs okc1 hP hD hS e2 => ?_)
        refine lv_aload_n hx hb dL_1151 rfl (lv_at hl 2 rfl) ?_
        refine lv_aload_n hx hb dL_1152 rfl (lv_at hl 0 rfl) ?_
        refine lv_iload_n hx hb dL_1153 rfl (lv_at hl 3 rfl) ?_
        refine lv_iconst (v := nI 1) hx hb dL_1154 rfl ?_
        refine lv_iadd hx hb dL_1155 ?_
        refine va_sld hx hb hX hbl hbA hS (hix 1 (by decide)) dL_1156 ?_
        refine lv_aload_n hx hb dL_1157 rfl (lv_at hl 0 rfl) ?_
        refine lv_iload_n hx hb dL_1158 rfl (lv_at hl 3 rfl) ?_
        refine lv_iconst (v := nI 2) hx hb dL_1159 rfl ?_
        refine lv_iadd hx hb dL_1160 ?_
        refine va_sld hx hb hX hbl hbA hS (hix 2 (by decide)) dL_1161 ?_
        refine lw_call (Z := zr) (g1 := gr1) (v := v) (as := [.int (xs (nI (6 * t) + nI 1).toNatClampNeg), .int (xs (nI (6 * t) + nI 2).toNatClampNeg)]) (rest := [.int v]) (ci := 12) (len := 64) htsW hx hb hml hown hXX hOO mt_r okr (lw_swP hP) (lw_swD hD) hS hl mo_X12_holds (am_mem7 152 (by decide +kernel)) ki_X12_holds kv_X12_holds (fun _ => rfl) ⟨trivial, trivial, trivial⟩ (okr.2.1 0 _ rfl) (by decide) rfl (Nat.le_of_ble_eq_true rfl) (by decide) (by omega) (by omega) dL_1162 _ (by rw [e1]; rfl) (fun αr1 H locs okr1 hP hD hS e3 => ?_)
        refine lv_icmp_eq (tgt := 1331) hx hb dL_1165 (by decide) (fun _ => ?_) (fun z => absurd rfl z)
        refine W.cs (cells' := am_n gc1 + am_n gr1) (slots' := am_s gc1 + am_s gr1) (by omega) (by omega) ?_
        exact next gc1 gr1 αc1 αr1 H locs hRel1 (e2.trans e0) (e3.trans e1) okc1 okr1 (lw_swP hP) (lw_swD hD) hS
      by_cases c_32 : x = (32 : Int32)
      · refine lv_tableIn (tgt := 1170) hx hb dL_33 (by rw [c_32]; decide) (by rw [c_32]; decide) (by rw [c_32]; rfl) (by decide) ?_
        obtain ⟨v, gc1, gr1, e_c, e_r, hRel1⟩ := h_32 t gc gr ht hRel
        have mt_c := tX11_signs e_c
        have mt_r := tX12_signs e_r
        have k_c : am_n gc ≤ am_n gc1 ∧ am_s gc ≤ am_s gc1 := mt_c.1
        have k_r : am_n gr ≤ am_n gr1 ∧ am_s gr ≤ am_s gr1 := mt_r.1
        have hn1 := hN.1 (t + 1) gc1 gr1 (by omega) hRel1
        refine lv_aload_n hx hb dL_1170 rfl (lv_at hl 1 rfl) ?_
        refine lw_call (Z := zc) (g1 := gc1) (v := v) (as := []) (rest := []) (ci := 11) (len := 17) htsW hx hb hml hown hXX hOO mt_c okc hP hD hS hl mo_X11_signs (am_mem4 200 (by decide +kernel)) ki_X11_signs kv_X11_signs (fun _ => rfl) trivial (okc.2.1 0 _ rfl) (by decide) rfl (Nat.le_of_ble_eq_true rfl) (by decide) (by omega) (by omega) dL_1171 _ (by rw [e0]; rfl) (fun αc1 H locs okc1 hP hD hS e2 => ?_)
        refine lv_aload_n hx hb dL_1174 rfl (lv_at hl 2 rfl) ?_
        refine lw_call (Z := zr) (g1 := gr1) (v := v) (as := []) (rest := [.int v]) (ci := 12) (len := 64) htsW hx hb hml hown hXX hOO mt_r okr (lw_swP hP) (lw_swD hD) hS hl mo_X12_signs (am_mem7 156 (by decide +kernel)) ki_X12_signs kv_X12_signs (fun _ => rfl) trivial (okr.2.1 0 _ rfl) (by decide) rfl (Nat.le_of_ble_eq_true rfl) (by decide) (by omega) (by omega) dL_1175 _ (by rw [e1]; rfl) (fun αr1 H locs okr1 hP hD hS e3 => ?_)
        refine lv_icmp_eq (tgt := 1331) hx hb dL_1178 (by decide) (fun _ => ?_) (fun z => absurd rfl z)
        refine W.cs (cells' := am_n gc1 + am_n gr1) (slots' := am_s gc1 + am_s gr1) (by omega) (by omega) ?_
        exact next gc1 gr1 αc1 αr1 H locs hRel1 (e2.trans e0) (e3.trans e1) okc1 okr1 (lw_swP hP) (lw_swD hD) hS
      by_cases c_33 : x = (33 : Int32)
      · refine lv_tableIn (tgt := 1183) hx hb dL_33 (by rw [c_33]; decide) (by rw [c_33]; decide) (by rw [c_33]; rfl) (by decide) ?_
        obtain ⟨v, gc1, gr1, e_c, e_r, hRel1⟩ := h_33 t gc gr (xs (nI (6 * t) + nI 1).toNatClampNeg) (xs (nI (6 * t) + nI 2).toNatClampNeg) ht hRel
        have mt_c := tX11_winter e_c
        have mt_r := tX12_winter e_r
        have k_c : am_n gc ≤ am_n gc1 ∧ am_s gc ≤ am_s gc1 := mt_c.1
        have k_r : am_n gr ≤ am_n gr1 ∧ am_s gr ≤ am_s gr1 := mt_r.1
        have hn1 := hN.1 (t + 1) gc1 gr1 (by omega) hRel1
        refine lv_aload_n hx hb dL_1183 rfl (lv_at hl 1 rfl) ?_
        refine lv_aload_n hx hb dL_1184 rfl (lv_at hl 0 rfl) ?_
        refine lv_iload_n hx hb dL_1185 rfl (lv_at hl 3 rfl) ?_
        refine lv_iconst (v := nI 1) hx hb dL_1186 rfl ?_
        refine lv_iadd hx hb dL_1187 ?_
        refine va_sld hx hb hX hbl hbA hS (hix 1 (by decide)) dL_1188 ?_
        refine lv_aload_n hx hb dL_1189 rfl (lv_at hl 0 rfl) ?_
        refine lv_iload_n hx hb dL_1190 rfl (lv_at hl 3 rfl) ?_
        refine lv_iconst (v := nI 2) hx hb dL_1191 rfl ?_
        refine lv_iadd hx hb dL_1192 ?_
        refine va_sld hx hb hX hbl hbA hS (hix 2 (by decide)) dL_1193 ?_
        refine lw_call (Z := zc) (g1 := gc1) (v := v) (as := [.int (xs (nI (6 * t) + nI 1).toNatClampNeg), .int (xs (nI (6 * t) + nI 2).toNatClampNeg)]) (rest := []) (ci := 11) (len := 17) htsW hx hb hml hown hXX hOO mt_c okc hP hD hS hl mo_X11_winter (am_mem4 208 (by decide +kernel)) ki_X11_winter kv_X11_winter (fun _ => rfl) ⟨trivial, trivial, trivial⟩ (okc.2.1 0 _ rfl) (by decide) rfl (Nat.le_of_ble_eq_true rfl) (by decide) (by omega) (by omega) dL_1194 _ (by rw [e0]; rfl) (fun αc1 H locs okc1 hP hD hS e2 => ?_)
        refine lv_aload_n hx hb dL_1197 rfl (lv_at hl 2 rfl) ?_
        refine lv_aload_n hx hb dL_1198 rfl (lv_at hl 0 rfl) ?_
        refine lv_iload_n hx hb dL_1199 rfl (lv_at hl 3 rfl) ?_
        refine lv_iconst (v := nI 1) hx hb dL_1200 rfl ?_
        refine lv_iadd hx hb dL_1201 ?_
        refine va_sld hx hb hX hbl hbA hS (hix 1 (by decide)) dL_1202 ?_
        refine lv_aload_n hx hb dL_1203 rfl (lv_at hl 0 rfl) ?_
        refine lv_iload_n hx hb dL_1204 rfl (lv_at hl 3 rfl) ?_
        refine lv_iconst (v := nI 2) hx hb dL_1205 rfl ?_
        refine lv_iadd hx hb dL_1206 ?_
        refine va_sld hx hb hX hbl hbA hS (hix 2 (by decide)) dL_1207 ?_
        refine lw_call (Z := zr) (g1 := gr1) (v := v) (as := [.int (xs (nI (6 * t) + nI 1).toNatClampNeg), .int (xs (nI (6 * t) + nI 2).toNatClampNeg)]) (rest := [.int v]) (ci := 12) (len := 64) htsW hx hb hml hown hXX hOO mt_r okr (lw_swP hP) (lw_swD hD) hS hl mo_X12_winter (am_mem7 192 (by decide +kernel)) ki_X12_winter kv_X12_winter (fun _ => rfl) ⟨trivial, trivial, trivial⟩ (okr.2.1 0 _ rfl) (by decide) rfl (Nat.le_of_ble_eq_true rfl) (by decide) (by omega) (by omega) dL_1208 _ (by rw [e1]; rfl) (fun αr1 H locs okr1 hP hD hS e3 => ?_)
        refine lv_icmp_eq (tgt := 1331) hx hb dL_1211 (by decide) (fun _ => ?_) (fun z => absurd rfl z)
        refine W.cs (cells' := am_n gc1 + am_n gr1) (slots' := am_s gc1 + am_s gr1) (by omega) (by omega) ?_
        exact next gc1 gr1 αc1 αr1 H locs hRel1 (e2.trans e0) (e3.trans e1) okc1 okr1 (lw_swP hP) (lw_swD hD) hS
      by_cases c_34 : x = (34 : Int32)
      · refine lv_tableIn (tgt := 1216) hx hb dL_33 (by rw [c_34]; decide) (by rw [c_34]; decide) (by rw [c_34]; rfl) (by decide) ?_
        obtain ⟨v, gc1, gr1, e_c, e_r, hRel1⟩ := h_34 t gc gr (xs (nI (6 * t) + nI 1).toNatClampNeg) (xs (nI (6 * t) + nI 2).toNatClampNeg) ht hRel
        have mt_c := tX11_drawn e_c
        have mt_r := tX12_drawn e_r
        have k_c : am_n gc ≤ am_n gc1 ∧ am_s gc ≤ am_s gc1 := mt_c.1
        have k_r : am_n gr ≤ am_n gr1 ∧ am_s gr ≤ am_s gr1 := mt_r.1
        have hn1 := hN.1 (t + 1) gc1 gr1 (by omega) hRel1
        refine lv_aload_n hx hb dL_1216 rfl (lv_at hl 1 rfl) ?_
        refine lv_aload_n hx hb dL_1217 rfl (lv_at hl 0 rfl) ?_
        refine lv_iload_n hx hb dL_1218 rfl (lv_at hl 3 rfl) ?_
        refine lv_iconst (v := nI 1) hx hb dL_1219 rfl ?_
        refine lv_iadd hx hb dL_1220 ?_
        refine va_sld hx hb hX hbl hbA hS (hix 1 (by decide)) dL_1221 ?_
        refine lv_aload_n hx hb dL_1222 rfl (lv_at hl 0 rfl) ?_
        refine lv_iload_n hx hb dL_1223 rfl (lv_at hl 3 rfl) ?_
        refine lv_iconst (v := nI 2) hx hb dL_1224 rfl ?_
        refine lv_iadd hx hb dL_1225 ?_
        refine va_sld hx hb hX hbl hbA hS (hix 2 (by decide)) dL_1226 ?_
        refine lw_call (Z := zc) (g1 := gc1) (v := v) (as := [.int (xs (nI (6 * t) + nI 1).toNatClampNeg), .int (xs (nI (6 * t) + nI 2).toNatClampNeg)]) (rest := []) (ci := 11) (len := 17) htsW hx hb hml hown hXX hOO mt_c okc hP hD hS hl mo_X11_drawn (am_mem4 222 (by decide +kernel)) ki_X11_drawn kv_X11_drawn (fun _ => rfl) ⟨trivial, trivial, trivial⟩ (okc.2.1 0 _ rfl) (by decide) rfl (Nat.le_of_ble_eq_true rfl) (by decide) (by omega) (by omega) dL_1227 _ (by rw [e0]; rfl) (fun αc1 H locs okc1 hP hD hS e2 => ?_)
        refine lv_aload_n hx hb dL_1230 rfl (lv_at hl 2 rfl) ?_
        refine lv_aload_n hx hb dL_1231 rfl (lv_at hl 0 rfl) ?_
        refine lv_iload_n hx hb dL_1232 rfl (lv_at hl 3 rfl) ?_
        refine lv_iconst (v := nI 1) hx hb dL_1233 rfl ?_
        refine lv_iadd hx hb dL_1234 ?_
        refine va_sld hx hb hX hbl hbA hS (hix 1 (by decide)) dL_1235 ?_
        refine lv_aload_n hx hb dL_1236 rfl (lv_at hl 0 rfl) ?_
        refine lv_iload_n hx hb dL_1237 rfl (lv_at hl 3 rfl) ?_
        refine lv_iconst (v := nI 2) hx hb dL_1238 rfl ?_
        refine lv_iadd hx hb dL_1239 ?_
        refine va_sld hx hb hX hbl hbA hS (hix 2 (by decide)) dL_1240 ?_
        refine lw_call (Z := zr) (g1 := gr1) (v := v) (as := [.int (xs (nI (6 * t) + nI 1).toNatClampNeg), .int (xs (nI (6 * t) + nI 2).toNatClampNeg)]) (rest := [.int v]) (ci := 12) (len := 64) htsW hx hb hml hown hXX hOO mt_r okr (lw_swP hP) (lw_swD hD) hS hl mo_X12_drawn (am_mem7 204 (by decide +kernel)) ki_X12_drawn kv_X12_drawn (fun _ => rfl) ⟨trivial, trivial, trivial⟩ (okr.2.1 0 _ rfl) (by decide) rfl (Nat.le_of_ble_eq_true rfl) (by decide) (by omega) (by omega) dL_1241 _ (by rw [e1]; rfl) (fun αr1 H locs okr1 hP hD hS e3 => ?_)
        refine lv_icmp_eq (tgt := 1331) hx hb dL_1244 (by decide) (fun _ => ?_) (fun z => absurd rfl z)
        refine W.cs (cells' := am_n gc1 + am_n gr1) (slots' := am_s gc1 + am_s gr1) (by omega) (by omega) ?_
        exact next gc1 gr1 αc1 αr1 H locs hRel1 (e2.trans e0) (e3.trans e1) okc1 okr1 (lw_swP hP) (lw_swD hD) hS
      by_cases c_35 : x = (35 : Int32)
      · refine lv_tableIn (tgt := 1249) hx hb dL_33 (by rw [c_35]; decide) (by rw [c_35]; decide) (by rw [c_35]; rfl) (by decide) ?_
        obtain ⟨v, gc1, gr1, e_c, e_r, hRel1⟩ := h_35 t gc gr (xs (nI (6 * t) + nI 1).toNatClampNeg) ht hRel
        have mt_c := tX11_image e_c
        have mt_r := tX12_image e_r
        have k_c : am_n gc ≤ am_n gc1 ∧ am_s gc ≤ am_s gc1 := mt_c.1
        have k_r : am_n gr ≤ am_n gr1 ∧ am_s gr ≤ am_s gr1 := mt_r.1
        have hn1 := hN.1 (t + 1) gc1 gr1 (by omega) hRel1
        refine lv_aload_n hx hb dL_1249 rfl (lv_at hl 1 rfl) ?_
        refine lv_aload_n hx hb dL_1250 rfl (lv_at hl 0 rfl) ?_
        refine lv_iload_n hx hb dL_1251 rfl (lv_at hl 3 rfl) ?_
        refine lv_iconst (v := nI 1) hx hb dL_1252 rfl ?_
        refine lv_iadd hx hb dL_1253 ?_
        refine va_sld hx hb hX hbl hbA hS (hix 1 (by decide)) dL_1254 ?_
        refine lw_call (Z := zc) (g1 := gc1) (v := v) (as := [.int (xs (nI (6 * t) + nI 1).toNatClampNeg)]) (rest := []) (ci := 11) (len := 17) htsW hx hb hml hown hXX hOO mt_c okc hP hD hS hl mo_X11_image (am_mem4 226 (by decide +kernel)) ki_X11_image kv_X11_image (fun _ => rfl) ⟨trivial, trivial⟩ (okc.2.1 0 _ rfl) (by decide) rfl (Nat.le_of_ble_eq_true rfl) (by decide) (by omega) (by omega) dL_1255 _ (by rw [e0]; rfl) (fun αc1 H locs okc1 hP hD hS e2 => ?_)
        refine lv_aload_n hx hb dL_1258 rfl (lv_at hl 2 rfl) ?_
        refine lv_aload_n hx hb dL_1259 rfl (lv_at hl 0 rfl) ?_
        refine lv_iload_n hx hb dL_1260 rfl (lv_at hl 3 rfl) ?_
        refine lv_iconst (v := nI 1) hx hb dL_1261 rfl ?_
        refine lv_iadd hx hb dL_1262 ?_
        refine va_sld hx hb hX hbl hbA hS (hix 1 (by decide)) dL_1263 ?_
        refine lw_call (Z := zr) (g1 := gr1) (v := v) (as := [.int (xs (nI (6 * t) + nI 1).toNatClampNeg)]) (rest := [.int v]) (ci := 12) (len := 64) htsW hx hb hml hown hXX hOO mt_r okr (lw_swP hP) (lw_swD hD) hS hl mo_X12_image (am_mem6 7 (by decide +kernel)) ki_X12_image kv_X12_image (fun _ => rfl) ⟨trivial, trivial⟩ (okr.2.1 0 _ rfl) (by decide) rfl (Nat.le_of_ble_eq_true rfl) (by decide) (by omega) (by omega) dL_1264 _ (by rw [e1]; rfl) (fun αr1 H locs okr1 hP hD hS e3 => ?_)
        refine lv_icmp_eq (tgt := 1331) hx hb dL_1267 (by decide) (fun _ => ?_) (fun z => absurd rfl z)
        refine W.cs (cells' := am_n gc1 + am_n gr1) (slots' := am_s gc1 + am_s gr1) (by omega) (by omega) ?_
        exact next gc1 gr1 αc1 αr1 H locs hRel1 (e2.trans e0) (e3.trans e1) okc1 okr1 (lw_swP hP) (lw_swD hD) hS
      by_cases c_36 : x = (36 : Int32)
      · refine lv_tableIn (tgt := 1272) hx hb dL_33 (by rw [c_36]; decide) (by rw [c_36]; decide) (by rw [c_36]; rfl) (by decide) ?_
        obtain ⟨v, gc1, gr1, e_c, e_r, hRel1⟩ := h_36 t gc gr (xs (nI (6 * t) + nI 1).toNatClampNeg) ht hRel
        have mt_c := tX11_back e_c
        have mt_r := tX12_back e_r
        have k_c : am_n gc ≤ am_n gc1 ∧ am_s gc ≤ am_s gc1 := mt_c.1
        have k_r : am_n gr ≤ am_n gr1 ∧ am_s gr ≤ am_s gr1 := mt_r.1
        have hn1 := hN.1 (t + 1) gc1 gr1 (by omega) hRel1
        refine lv_aload_n hx hb dL_1272 rfl (lv_at hl 1 rfl) ?_
        refine lv_aload_n hx hb dL_1273 rfl (lv_at hl 0 rfl) ?_
        refine lv_iload_n hx hb dL_1274 rfl (lv_at hl 3 rfl) ?_
        refine lv_iconst (v := nI 1) hx hb dL_1275 rfl ?_
        refine lv_iadd hx hb dL_1276 ?_
        refine va_sld hx hb hX hbl hbA hS (hix 1 (by decide)) dL_1277 ?_
        refine lw_call (Z := zc) (g1 := gc1) (v := v) (as := [.int (xs (nI (6 * t) + nI 1).toNatClampNeg)]) (rest := []) (ci := 11) (len := 17) htsW hx hb hml hown hXX hOO mt_c okc hP hD hS hl mo_X11_back (am_mem5 1 (by decide +kernel)) ki_X11_back kv_X11_back (fun _ => rfl) ⟨trivial, trivial⟩ (okc.2.1 0 _ rfl) (by decide) rfl (Nat.le_of_ble_eq_true rfl) (by decide) (by omega) (by omega) dL_1278 _ (by rw [e0]; rfl) (fun αc1 H locs okc1 hP hD hS e2 => ?_)
        refine lv_aload_n hx hb dL_1281 rfl (lv_at hl 2 rfl) ?_
        refine lv_aload_n hx hb dL_1282 rfl (lv_at hl 0 rfl) ?_
        refine lv_iload_n hx hb dL_1283 rfl (lv_at hl 3 rfl) ?_
        refine lv_iconst (v := nI 1) hx hb dL_1284 rfl ?_
        refine lv_iadd hx hb dL_1285 ?_
        refine va_sld hx hb hX hbl hbA hS (hix 1 (by decide)) dL_1286 ?_
        refine lw_call (Z := zr) (g1 := gr1) (v := v) (as := [.int (xs (nI (6 * t) + nI 1).toNatClampNeg)]) (rest := [.int v]) (ci := 12) (len := 64) htsW hx hb hml hown hXX hOO mt_r okr (lw_swP hP) (lw_swD hD) hS hl mo_X12_back (am_mem6 14 (by decide +kernel)) ki_X12_back kv_X12_back (fun _ => rfl) ⟨trivial, trivial⟩ (okr.2.1 0 _ rfl) (by decide) rfl (Nat.le_of_ble_eq_true rfl) (by decide) (by omega) (by omega) dL_1287 _ (by rw [e1]; rfl) (fun αr1 H locs okr1 hP hD hS e3 => ?_)
        refine lv_icmp_eq (tgt := 1331) hx hb dL_1290 (by decide) (fun _ => ?_) (fun z => absurd rfl z)
        refine W.cs (cells' := am_n gc1 + am_n gr1) (slots' := am_s gc1 + am_s gr1) (by omega) (by omega) ?_
        exact next gc1 gr1 αc1 αr1 H locs hRel1 (e2.trans e0) (e3.trans e1) okc1 okr1 (lw_swP hP) (lw_swD hD) hS
      by_cases c_37 : x = (37 : Int32)
      · refine lv_tableIn (tgt := 1295) hx hb dL_33 (by rw [c_37]; decide) (by rw [c_37]; decide) (by rw [c_37]; rfl) (by decide) ?_
        obtain ⟨v, gc1, gr1, e_c, e_r, hRel1⟩ := h_37 t gc gr (xs (nI (6 * t) + nI 1).toNatClampNeg) ht hRel
        have mt_c := tX11_count e_c
        have mt_r := tX12_count e_r
        have k_c : am_n gc ≤ am_n gc1 ∧ am_s gc ≤ am_s gc1 := mt_c.1
        have k_r : am_n gr ≤ am_n gr1 ∧ am_s gr ≤ am_s gr1 := mt_r.1
        have hn1 := hN.1 (t + 1) gc1 gr1 (by omega) hRel1
        refine lv_aload_n hx hb dL_1295 rfl (lv_at hl 1 rfl) ?_
        refine lv_aload_n hx hb dL_1296 rfl (lv_at hl 0 rfl) ?_
        refine lv_iload_n hx hb dL_1297 rfl (lv_at hl 3 rfl) ?_
        refine lv_iconst (v := nI 1) hx hb dL_1298 rfl ?_
        refine lv_iadd hx hb dL_1299 ?_
        refine va_sld hx hb hX hbl hbA hS (hix 1 (by decide)) dL_1300 ?_
        refine lw_call (Z := zc) (g1 := gc1) (v := v) (as := [.int (xs (nI (6 * t) + nI 1).toNatClampNeg)]) (rest := []) (ci := 11) (len := 17) htsW hx hb hml hown hXX hOO mt_c okc hP hD hS hl mo_X11_count (am_mem5 5 (by decide +kernel)) ki_X11_count kv_X11_count (fun _ => rfl) ⟨trivial, trivial⟩ (okc.2.1 0 _ rfl) (by decide) rfl (Nat.le_of_ble_eq_true rfl) (by decide) (by omega) (by omega) dL_1301 _ (by rw [e0]; rfl) (fun αc1 H locs okc1 hP hD hS e2 => ?_)
        refine lv_aload_n hx hb dL_1304 rfl (lv_at hl 2 rfl) ?_
        refine lv_aload_n hx hb dL_1305 rfl (lv_at hl 0 rfl) ?_
        refine lv_iload_n hx hb dL_1306 rfl (lv_at hl 3 rfl) ?_
        refine lv_iconst (v := nI 1) hx hb dL_1307 rfl ?_
        refine lv_iadd hx hb dL_1308 ?_
        refine va_sld hx hb hX hbl hbA hS (hix 1 (by decide)) dL_1309 ?_
        refine lw_call (Z := zr) (g1 := gr1) (v := v) (as := [.int (xs (nI (6 * t) + nI 1).toNatClampNeg)]) (rest := [.int v]) (ci := 12) (len := 64) htsW hx hb hml hown hXX hOO mt_r okr (lw_swP hP) (lw_swD hD) hS hl mo_X12_count (am_mem7 208 (by decide +kernel)) ki_X12_count kv_X12_count (fun _ => rfl) ⟨trivial, trivial⟩ (okr.2.1 0 _ rfl) (by decide) rfl (Nat.le_of_ble_eq_true rfl) (by decide) (by omega) (by omega) dL_1310 _ (by rw [e1]; rfl) (fun αr1 H locs okr1 hP hD hS e3 => ?_)
        refine lv_icmp_eq (tgt := 1331) hx hb dL_1313 (by decide) (fun _ => ?_) (fun z => absurd rfl z)
        refine W.cs (cells' := am_n gc1 + am_n gr1) (slots' := am_s gc1 + am_s gr1) (by omega) (by omega) ?_
        exact next gc1 gr1 αc1 αr1 H locs hRel1 (e2.trans e0) (e3.trans e1) okc1 okr1 (lw_swP hP) (lw_swD hD) hS
      by_cases c_38 : x = (38 : Int32)
      · refine lv_tableIn (tgt := 1318) hx hb dL_33 (by rw [c_38]; decide) (by rw [c_38]; decide) (by rw [c_38]; rfl) (by decide) ?_
        obtain ⟨v, gc1, gr1, e_c, e_r, hRel1⟩ := h_38 t gc gr ht hRel
        have mt_c := tX11_status e_c
        have mt_r := tX12_status e_r
        have k_c : am_n gc ≤ am_n gc1 ∧ am_s gc ≤ am_s gc1 := mt_c.1
        have k_r : am_n gr ≤ am_n gr1 ∧ am_s gr ≤ am_s gr1 := mt_r.1
        have hn1 := hN.1 (t + 1) gc1 gr1 (by omega) hRel1
        refine lv_aload_n hx hb dL_1318 rfl (lv_at hl 1 rfl) ?_
        refine lw_call (Z := zc) (g1 := gc1) (v := v) (as := []) (rest := []) (ci := 11) (len := 17) htsW hx hb hml hown hXX hOO mt_c okc hP hD hS hl mo_X11_status (am_mem5 9 (by decide +kernel)) ki_X11_status kv_X11_status (fun _ => rfl) trivial (okc.2.1 0 _ rfl) (by decide) rfl (Nat.le_of_ble_eq_true rfl) (by decide) (by omega) (by omega) dL_1319 _ (by rw [e0]; rfl) (fun αc1 H locs okc1 hP hD hS e2 => ?_)
        refine lv_aload_n hx hb dL_1322 rfl (lv_at hl 2 rfl) ?_
        refine lw_call (Z := zr) (g1 := gr1) (v := v) (as := []) (rest := [.int v]) (ci := 12) (len := 64) htsW hx hb hml hown hXX hOO mt_r okr (lw_swP hP) (lw_swD hD) hS hl mo_X12_status (am_mem7 214 (by decide +kernel)) ki_X12_status kv_X12_status (fun _ => rfl) trivial (okr.2.1 0 _ rfl) (by decide) rfl (Nat.le_of_ble_eq_true rfl) (by decide) (by omega) (by omega) dL_1323 _ (by rw [e1]; rfl) (fun αr1 H locs okr1 hP hD hS e3 => ?_)
        refine lv_icmp_eq (tgt := 1331) hx hb dL_1326 (by decide) (fun _ => ?_) (fun z => absurd rfl z)
        refine W.cs (cells' := am_n gc1 + am_n gr1) (slots' := am_s gc1 + am_s gr1) (by omega) (by omega) ?_
        exact next gc1 gr1 αc1 αr1 H locs hRel1 (e2.trans e0) (e3.trans e1) okc1 okr1 (lw_swP hP) (lw_swD hD) hS
      refine lv_tableOut (tgt := 1331) hx hb dL_33 (by have z0 := am_ti c_0 (k := 0) (by decide); have z1 := am_ti c_1 (k := 1) (by decide); have z2 := am_ti c_2 (k := 2) (by decide); have z3 := am_ti c_3 (k := 3) (by decide); have z4 := am_ti c_4 (k := 4) (by decide); have z5 := am_ti c_5 (k := 5) (by decide); have z6 := am_ti c_6 (k := 6) (by decide); have z7 := am_ti c_7 (k := 7) (by decide); have z8 := am_ti c_8 (k := 8) (by decide); have z9 := am_ti c_9 (k := 9) (by decide); have z10 := am_ti c_10 (k := 10) (by decide); have z11 := am_ti c_11 (k := 11) (by decide); have z12 := am_ti c_12 (k := 12) (by decide); have z13 := am_ti c_13 (k := 13) (by decide); have z14 := am_ti c_14 (k := 14) (by decide); have z15 := am_ti c_15 (k := 15) (by decide); have z16 := am_ti c_16 (k := 16) (by decide); have z17 := am_ti c_17 (k := 17) (by decide); have z18 := am_ti c_18 (k := 18) (by decide); have z19 := am_ti c_19 (k := 19) (by decide); have z20 := am_ti c_20 (k := 20) (by decide); have z21 := am_ti c_21 (k := 21) (by decide); have z22 := am_ti c_22 (k := 22) (by decide); have z23 := am_ti c_23 (k := 23) (by decide); have z24 := am_ti c_24 (k := 24) (by decide); have z25 := am_ti c_25 (k := 25) (by decide); have z26 := am_ti c_26 (k := 26) (by decide); have z27 := am_ti c_27 (k := 27) (by decide); have z28 := am_ti c_28 (k := 28) (by decide); have z29 := am_ti c_29 (k := 29) (by decide); have z30 := am_ti c_30 (k := 30) (by decide); have z31 := am_ti c_31 (k := 31) (by decide); have z32 := am_ti c_32 (k := 32) (by decide); have z33 := am_ti c_33 (k := 33) (by decide); have z34 := am_ti c_34 (k := 34) (by decide); have z35 := am_ti c_35 (k := 35) (by decide); have z36 := am_ti c_36 (k := 36) (by decide); have z37 := am_ti c_37 (k := 37) (by decide); have z38 := am_ti c_38 (k := 38) (by decide); omega) (by decide) ?_
      exact next gc gr αc αr H locs (hN.2 _ _ _ hRel) e0 e1 okc okr hP hD hS
    · exact lw_end hx hb hr hlocks hL hX hbl hN h2 (by omega) hRel hS hl

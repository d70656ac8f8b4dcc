theorem ev_iconst {Z : am_Z} {M : am_M} {d pc : Nat} {ls : List (Nat × Value)} {rest : List Value} {g : am_G} {r : Option Value × am_G} {n : Int} {v : Int32} (hd : decode M.2.1 pc = .ok (.iconst n, 1)) (hv : Int32.ofInt n = v) (kk : am_Ev Z M d (pc + 1) ls (.int v :: rest) g r) : am_Ev Z M d pc ls (rest) g r := by
  refine ⟨kk.1, ?_⟩
  intro p l e R s m args below meth c σ τ D dA A α0 n0 s0 C α H locs la V hst
  exact lv_iconst C.1 C.2.1 hd hv (kk.2 p l e R s m args below meth c σ τ D dA A α0 n0 s0 C α H locs la V ⟨trivial, hst⟩)
theorem ev_bipush {Z : am_Z} {M : am_M} {d pc : Nat} {ls : List (Nat × Value)} {rest : List Value} {g : am_G} {r : Option Value × am_G} {n : Int} {v : Int32} (hd : decode M.2.1 pc = .ok (.bipush n, 2)) (hv : (Int8.ofInt n).toInt32 = v) (kk : am_Ev Z M d (pc + 2) ls (.int v :: rest) g r) : am_Ev Z M d pc ls (rest) g r := by
  refine ⟨kk.1, ?_⟩
  intro p l e R s m args below meth c σ τ D dA A α0 n0 s0 C α H locs la V hst
  exact lv_bipush C.1 C.2.1 hd hv (kk.2 p l e R s m args below meth c σ τ D dA A α0 n0 s0 C α H locs la V ⟨trivial, hst⟩)
theorem ev_sipush {Z : am_Z} {M : am_M} {d pc : Nat} {ls : List (Nat × Value)} {rest : List Value} {g : am_G} {r : Option Value × am_G} {n : Int} {v : Int32} (hd : decode M.2.1 pc = .ok (.sipush n, 3)) (hv : (Int16.ofInt n).toInt32 = v) (kk : am_Ev Z M d (pc + 3) ls (.int v :: rest) g r) : am_Ev Z M d pc ls (rest) g r := by
  refine ⟨kk.1, ?_⟩
  intro p l e R s m args below meth c σ τ D dA A α0 n0 s0 C α H locs la V hst
  exact lv_sipush C.1 C.2.1 hd hv (kk.2 p l e R s m args below meth c σ τ D dA A α0 n0 s0 C α H locs la V ⟨trivial, hst⟩)
theorem ev_lconst {Z : am_Z} {M : am_M} {d pc : Nat} {ls : List (Nat × Value)} {rest : List Value} {g : am_G} {r : Option Value × am_G} {n : Fin 2} {v : Int64} (hd : decode M.2.1 pc = .ok (.lconst n, 1)) (hv : Int64.ofNat (n : Nat) = v) (kk : am_Ev Z M d (pc + 1) ls (.long v :: rest) g r) : am_Ev Z M d pc ls (rest) g r := by
  refine ⟨kk.1, ?_⟩
  intro p l e R s m args below meth c σ τ D dA A α0 n0 s0 C α H locs la V hst
  exact lv_lconst C.1 C.2.1 hd hv (kk.2 p l e R s m args below meth c σ τ D dA A α0 n0 s0 C α H locs la V ⟨trivial, hst⟩)
theorem ev_ldc {Z : am_Z} {M : am_M} {d pc : Nat} {ls : List (Nat × Value)} {rest : List Value} {g : am_G} {r : Option Value × am_G} {i : Nat} {v : Int32} (hd : decode M.2.1 pc = .ok (.ldc i, 2)) (hc : Cond.constant M.1.cls i v ∈ am_W) (kk : am_Ev Z M d (pc + 2) ls (.int v :: rest) g r) : am_Ev Z M d pc ls (rest) g r := by
  refine ⟨kk.1, ?_⟩
  intro p l e R s m args below meth c σ τ D dA A α0 n0 s0 C α H locs la V hst
  exact lv_ldc C.1 C.2.1 C.2.2.2.2.1 (C.2.2.2.2.2.1 _ hc) hd (kk.2 p l e R s m args below meth c σ τ D dA A α0 n0 s0 C α H locs la V ⟨trivial, hst⟩)
theorem ev_ldcw {Z : am_Z} {M : am_M} {d pc : Nat} {ls : List (Nat × Value)} {rest : List Value} {g : am_G} {r : Option Value × am_G} {i : Nat} {v : Int32} (hd : decode M.2.1 pc = .ok (.ldc_w i, 3)) (hc : Cond.constant M.1.cls i v ∈ am_W) (kk : am_Ev Z M d (pc + 3) ls (.int v :: rest) g r) : am_Ev Z M d pc ls (rest) g r := by
  refine ⟨kk.1, ?_⟩
  intro p l e R s m args below meth c σ τ D dA A α0 n0 s0 C α H locs la V hst
  exact lv_ldcw C.1 C.2.1 C.2.2.2.2.1 (C.2.2.2.2.2.1 _ hc) hd (kk.2 p l e R s m args below meth c σ τ D dA A α0 n0 s0 C α H locs la V ⟨trivial, hst⟩)
theorem ev_ldc2 {Z : am_Z} {M : am_M} {d pc : Nat} {ls : List (Nat × Value)} {rest : List Value} {g : am_G} {r : Option Value × am_G} {i : Nat} {v : Int64} (hd : decode M.2.1 pc = .ok (.ldc2_w i, 3)) (hc : Cond.constantLong M.1.cls i v ∈ am_W) (kk : am_Ev Z M d (pc + 3) ls (.long v :: rest) g r) : am_Ev Z M d pc ls (rest) g r := by
  refine ⟨kk.1, ?_⟩
  intro p l e R s m args below meth c σ τ D dA A α0 n0 s0 C α H locs la V hst
  exact lv_ldc2 C.1 C.2.1 C.2.2.2.2.1 (C.2.2.2.2.2.1 _ hc) hd (kk.2 p l e R s m args below meth c σ τ D dA A α0 n0 s0 C α H locs la V ⟨trivial, hst⟩)
theorem ev_null {Z : am_Z} {M : am_M} {d pc : Nat} {ls : List (Nat × Value)} {rest : List Value} {g : am_G} {r : Option Value × am_G} (hd : decode M.2.1 pc = .ok (.aconst_null, 1)) (kk : am_Ev Z M d (pc + 1) ls (.null :: rest) g r) : am_Ev Z M d pc ls (rest) g r := by
  refine ⟨kk.1, ?_⟩
  intro p l e R s m args below meth c σ τ D dA A α0 n0 s0 C α H locs la V hst
  exact lv_null C.1 C.2.1 hd (kk.2 p l e R s m args below meth c σ τ D dA A α0 n0 s0 C α H locs la V ⟨trivial, hst⟩)
theorem ev_iload_n {Z : am_Z} {M : am_M} {d pc : Nat} {ls : List (Nat × Value)} {rest : List Value} {g : am_G} {r : Option Value × am_G} {i : Fin 4} {x : Int32} (k : Nat) (hd : decode M.2.1 pc = .ok (.iload_n i, 1)) (hl : ls[k]? = some ((i : Nat), .int x)) (kk : am_Ev Z M d (pc + 1) ls (.int x :: rest) g r) : am_Ev Z M d pc ls (rest) g r := by
  refine ⟨kk.1, ?_⟩
  intro p l e R s m args below meth c σ τ D dA A α0 n0 s0 C α H locs la V hst
  exact lv_iload_n C.1 C.2.1 hd rfl (am_lv V.2.2.2.2.2.2.2.2 hl) (kk.2 p l e R s m args below meth c σ τ D dA A α0 n0 s0 C α H locs la V ⟨trivial, hst⟩)
theorem ev_iload {Z : am_Z} {M : am_M} {d pc : Nat} {ls : List (Nat × Value)} {rest : List Value} {g : am_G} {r : Option Value × am_G} {i : Nat} {x : Int32} (k : Nat) (hd : decode M.2.1 pc = .ok (.iload i, 2)) (hl : ls[k]? = some (i, .int x)) (kk : am_Ev Z M d (pc + 2) ls (.int x :: rest) g r) : am_Ev Z M d pc ls (rest) g r := by
  refine ⟨kk.1, ?_⟩
  intro p l e R s m args below meth c σ τ D dA A α0 n0 s0 C α H locs la V hst
  exact lv_iload C.1 C.2.1 hd (am_lv V.2.2.2.2.2.2.2.2 hl) (kk.2 p l e R s m args below meth c σ τ D dA A α0 n0 s0 C α H locs la V ⟨trivial, hst⟩)
theorem ev_lload_n {Z : am_Z} {M : am_M} {d pc : Nat} {ls : List (Nat × Value)} {rest : List Value} {g : am_G} {r : Option Value × am_G} {i : Fin 4} {x : Int64} (k : Nat) (hd : decode M.2.1 pc = .ok (.lload_n i, 1)) (hl : ls[k]? = some ((i : Nat), .long x)) (kk : am_Ev Z M d (pc + 1) ls (.long x :: rest) g r) : am_Ev Z M d pc ls (rest) g r := by
  refine ⟨kk.1, ?_⟩
  intro p l e R s m args below meth c σ τ D dA A α0 n0 s0 C α H locs la V hst
  exact lv_lload_n C.1 C.2.1 hd rfl (am_lv V.2.2.2.2.2.2.2.2 hl) (kk.2 p l e R s m args below meth c σ τ D dA A α0 n0 s0 C α H locs la V ⟨trivial, hst⟩)
theorem ev_lload {Z : am_Z} {M : am_M} {d pc : Nat} {ls : List (Nat × Value)} {rest : List Value} {g : am_G} {r : Option Value × am_G} {i : Nat} {x : Int64} (k : Nat) (hd : decode M.2.1 pc = .ok (.lload i, 2)) (hl : ls[k]? = some (i, .long x)) (kk : am_Ev Z M d (pc + 2) ls (.long x :: rest) g r) : am_Ev Z M d pc ls (rest) g r := by
  refine ⟨kk.1, ?_⟩
  intro p l e R s m args below meth c σ τ D dA A α0 n0 s0 C α H locs la V hst
  exact lv_lload C.1 C.2.1 hd (am_lv V.2.2.2.2.2.2.2.2 hl) (kk.2 p l e R s m args below meth c σ τ D dA A α0 n0 s0 C α H locs la V ⟨trivial, hst⟩)
theorem ev_aload_n {Z : am_Z} {M : am_M} {d pc : Nat} {ls : List (Nat × Value)} {rest : List Value} {g : am_G} {r : Option Value × am_G} {i : Fin 4} {x : Nat} (k : Nat) (hd : decode M.2.1 pc = .ok (.aload_n i, 1)) (hl : ls[k]? = some ((i : Nat), .ref x)) (kk : am_Ev Z M d (pc + 1) ls (.ref x :: rest) g r) : am_Ev Z M d pc ls (rest) g r := by
  refine ⟨kk.1, ?_⟩
  intro p l e R s m args below meth c σ τ D dA A α0 n0 s0 C α H locs la V hst
  exact lv_aload_n C.1 C.2.1 hd rfl (am_lv V.2.2.2.2.2.2.2.2 hl) (kk.2 p l e R s m args below meth c σ τ D dA A α0 n0 s0 C α H locs la V ⟨V.2.2.2.2.1 _ (List.mem_of_getElem? hl), hst⟩)
theorem ev_aload {Z : am_Z} {M : am_M} {d pc : Nat} {ls : List (Nat × Value)} {rest : List Value} {g : am_G} {r : Option Value × am_G} {i : Nat} {x : Nat} (k : Nat) (hd : decode M.2.1 pc = .ok (.aload i, 2)) (hl : ls[k]? = some (i, .ref x)) (kk : am_Ev Z M d (pc + 2) ls (.ref x :: rest) g r) : am_Ev Z M d pc ls (rest) g r := by
  refine ⟨kk.1, ?_⟩
  intro p l e R s m args below meth c σ τ D dA A α0 n0 s0 C α H locs la V hst
  exact lv_aload C.1 C.2.1 hd (am_lv V.2.2.2.2.2.2.2.2 hl) (kk.2 p l e R s m args below meth c σ τ D dA A α0 n0 s0 C α H locs la V ⟨V.2.2.2.2.1 _ (List.mem_of_getElem? hl), hst⟩)
theorem ev_aload_nN {Z : am_Z} {M : am_M} {d pc : Nat} {ls : List (Nat × Value)} {rest : List Value} {g : am_G} {r : Option Value × am_G} {i : Fin 4} (k : Nat) (hd : decode M.2.1 pc = .ok (.aload_n i, 1)) (hl : ls[k]? = some ((i : Nat), .null)) (kk : am_Ev Z M d (pc + 1) ls (.null :: rest) g r) : am_Ev Z M d pc ls (rest) g r := by
  refine ⟨kk.1, ?_⟩
  intro p l e R s m args below meth c σ τ D dA A α0 n0 s0 C α H locs la V hst
  exact lv_aload_nN C.1 C.2.1 hd rfl (am_lv V.2.2.2.2.2.2.2.2 hl) (kk.2 p l e R s m args below meth c σ τ D dA A α0 n0 s0 C α H locs la V ⟨trivial, hst⟩)
theorem ev_aloadN {Z : am_Z} {M : am_M} {d pc : Nat} {ls : List (Nat × Value)} {rest : List Value} {g : am_G} {r : Option Value × am_G} {i : Nat} (k : Nat) (hd : decode M.2.1 pc = .ok (.aload i, 2)) (hl : ls[k]? = some (i, .null)) (kk : am_Ev Z M d (pc + 2) ls (.null :: rest) g r) : am_Ev Z M d pc ls (rest) g r := by
  refine ⟨kk.1, ?_⟩
  intro p l e R s m args below meth c σ τ D dA A α0 n0 s0 C α H locs la V hst
  exact lv_aloadN C.1 C.2.1 hd (am_lv V.2.2.2.2.2.2.2.2 hl) (kk.2 p l e R s m args below meth c σ τ D dA A α0 n0 s0 C α H locs la V ⟨trivial, hst⟩)
theorem ev_istore_n {Z : am_Z} {M : am_M} {d pc : Nat} {ls : List (Nat × Value)} {rest : List Value} {g : am_G} {r : Option Value × am_G} {ls' : List (Nat × Value)} {x : Int32} {j : Fin 4} {i : Nat} (hd : decode M.2.1 pc = .ok (.istore_n j, 1)) (hi : (j : Nat) = i) (hn : i < M.2.2.1) (hls : (i, .int x) :: ls.filter (fun q => !(q.1 == i) && !(q.1 + 1 == i && q.2.category == 2)) = ls') (kk : am_Ev Z M d (pc + 1) ls' rest g r) : am_Ev Z M d pc ls (.int x :: rest) g r := by
  refine ⟨kk.1, ?_⟩
  intro p l e R s m args below meth c σ τ D dA A α0 n0 s0 C α H locs la V hst
  refine lv_istore_n C.1 C.2.1 hd hi V.2.2.2.2.2.2.2.2 hn (lv' := ls'.map fun q => (q.1, am_cv σ α q.2)) (by rw [am_filt, ← hls]; rfl) (fun la' hl => ?_)
  exact kk.2 p l e R s m args below meth c σ τ D dA A α0 n0 s0 C α H locs la' (V.store hst.1 hls hl) hst.2
theorem ev_istore {Z : am_Z} {M : am_M} {d pc : Nat} {ls : List (Nat × Value)} {rest : List Value} {g : am_G} {r : Option Value × am_G} {ls' : List (Nat × Value)} {x : Int32} {i : Nat} (hd : decode M.2.1 pc = .ok (.istore i, 2)) (hn : i < M.2.2.1) (hls : (i, .int x) :: ls.filter (fun q => !(q.1 == i) && !(q.1 + 1 == i && q.2.category == 2)) = ls') (kk : am_Ev Z M d (pc + 2) ls' rest g r) : am_Ev Z M d pc ls (.int x :: rest) g r := by
  refine ⟨kk.1, ?_⟩
  intro p l e R s m args below meth c σ τ D dA A α0 n0 s0 C α H locs la V hst
  refine lv_istore C.1 C.2.1 hd V.2.2.2.2.2.2.2.2 hn (lv' := ls'.map fun q => (q.1, am_cv σ α q.2)) (by rw [am_filt, ← hls]; rfl) (fun la' hl => ?_)
  exact kk.2 p l e R s m args below meth c σ τ D dA A α0 n0 s0 C α H locs la' (V.store hst.1 hls hl) hst.2
theorem ev_lstore_n {Z : am_Z} {M : am_M} {d pc : Nat} {ls : List (Nat × Value)} {rest : List Value} {g : am_G} {r : Option Value × am_G} {ls' : List (Nat × Value)} {x : Int64} {j : Fin 4} {i : Nat} (hd : decode M.2.1 pc = .ok (.lstore_n j, 1)) (hi : (j : Nat) = i) (hn : i + 1 < M.2.2.1) (hls : (i, .long x) :: ls.filter (fun q => !(q.1 == i) && (!(q.1 == i + 1) && !(q.1 + 1 == i && q.2.category == 2))) = ls') (kk : am_Ev Z M d (pc + 1) ls' rest g r) : am_Ev Z M d pc ls (.long x :: rest) g r := by
  refine ⟨kk.1, ?_⟩
  intro p l e R s m args below meth c σ τ D dA A α0 n0 s0 C α H locs la V hst
  refine lv_lstore_n C.1 C.2.1 hd hi V.2.2.2.2.2.2.2.2 hn (lv' := ls'.map fun q => (q.1, am_cv σ α q.2)) (by rw [am_filt2, ← hls]; rfl) (fun la' hl => ?_)
  exact kk.2 p l e R s m args below meth c σ τ D dA A α0 n0 s0 C α H locs la' (V.store hst.1 hls hl) hst.2
theorem ev_lstore {Z : am_Z} {M : am_M} {d pc : Nat} {ls : List (Nat × Value)} {rest : List Value} {g : am_G} {r : Option Value × am_G} {ls' : List (Nat × Value)} {x : Int64} {i : Nat} (hd : decode M.2.1 pc = .ok (.lstore i, 2)) (hn : i + 1 < M.2.2.1) (hls : (i, .long x) :: ls.filter (fun q => !(q.1 == i) && (!(q.1 == i + 1) && !(q.1 + 1 == i && q.2.category == 2))) = ls') (kk : am_Ev Z M d (pc + 2) ls' rest g r) : am_Ev Z M d pc ls (.long x :: rest) g r := by
  refine ⟨kk.1, ?_⟩
  intro p l e R s m args below meth c σ τ D dA A α0 n0 s0 C α H locs la V hst
  refine lv_lstore C.1 C.2.1 hd V.2.2.2.2.2.2.2.2 hn (lv' := ls'.map fun q => (q.1, am_cv σ α q.2)) (by rw [am_filt2, ← hls]; rfl) (fun la' hl => ?_)
  exact kk.2 p l e R s m args below meth c σ τ D dA A α0 n0 s0 C α H locs la' (V.store hst.1 hls hl) hst.2
theorem ev_astore_n {Z : am_Z} {M : am_M} {d pc : Nat} {ls : List (Nat × Value)} {rest : List Value} {g : am_G} {r : Option Value × am_G} {ls' : List (Nat × Value)} {x : Nat} {j : Fin 4} {i : Nat} (hd : decode M.2.1 pc = .ok (.astore_n j, 1)) (hi : (j : Nat) = i) (hn : i < M.2.2.1) (hls : (i, .ref x) :: ls.filter (fun q => !(q.1 == i) && !(q.1 + 1 == i && q.2.category == 2)) = ls') (kk : am_Ev Z M d (pc + 1) ls' rest g r) : am_Ev Z M d pc ls (.ref x :: rest) g r := by
  refine ⟨kk.1, ?_⟩
  intro p l e R s m args below meth c σ τ D dA A α0 n0 s0 C α H locs la V hst
  refine lv_astore_n C.1 C.2.1 hd hi V.2.2.2.2.2.2.2.2 hn (lv' := ls'.map fun q => (q.1, am_cv σ α q.2)) (by rw [am_filt, ← hls]; rfl) (fun la' hl => ?_)
  exact kk.2 p l e R s m args below meth c σ τ D dA A α0 n0 s0 C α H locs la' (V.store hst.1 hls hl) hst.2
theorem ev_astore {Z : am_Z} {M : am_M} {d pc : Nat} {ls : List (Nat × Value)} {rest : List Value} {g : am_G} {r : Option Value × am_G} {ls' : List (Nat × Value)} {x : Nat} {i : Nat} (hd : decode M.2.1 pc = .ok (.astore i, 2)) (hn : i < M.2.2.1) (hls : (i, .ref x) :: ls.filter (fun q => !(q.1 == i) && !(q.1 + 1 == i && q.2.category == 2)) = ls') (kk : am_Ev Z M d (pc + 2) ls' rest g r) : am_Ev Z M d pc ls (.ref x :: rest) g r := by
  refine ⟨kk.1, ?_⟩
  intro p l e R s m args below meth c σ τ D dA A α0 n0 s0 C α H locs la V hst
  refine lv_astore C.1 C.2.1 hd V.2.2.2.2.2.2.2.2 hn (lv' := ls'.map fun q => (q.1, am_cv σ α q.2)) (by rw [am_filt, ← hls]; rfl) (fun la' hl => ?_)
  exact kk.2 p l e R s m args below meth c σ τ D dA A α0 n0 s0 C α H locs la' (V.store hst.1 hls hl) hst.2
theorem ev_astore_nN {Z : am_Z} {M : am_M} {d pc : Nat} {ls : List (Nat × Value)} {rest : List Value} {g : am_G} {r : Option Value × am_G} {ls' : List (Nat × Value)} {j : Fin 4} {i : Nat} (hd : decode M.2.1 pc = .ok (.astore_n j, 1)) (hi : (j : Nat) = i) (hn : i < M.2.2.1) (hls : (i, .null) :: ls.filter (fun q => !(q.1 == i) && !(q.1 + 1 == i && q.2.category == 2)) = ls') (kk : am_Ev Z M d (pc + 1) ls' rest g r) : am_Ev Z M d pc ls (.null :: rest) g r := by
  refine ⟨kk.1, ?_⟩
  intro p l e R s m args below meth c σ τ D dA A α0 n0 s0 C α H locs la V hst
  refine lv_astore_nN C.1 C.2.1 hd hi V.2.2.2.2.2.2.2.2 hn (lv' := ls'.map fun q => (q.1, am_cv σ α q.2)) (by rw [am_filt, ← hls]; rfl) (fun la' hl => ?_)
  exact kk.2 p l e R s m args below meth c σ τ D dA A α0 n0 s0 C α H locs la' (V.store hst.1 hls hl) hst.2
theorem ev_astoreN {Z : am_Z} {M : am_M} {d pc : Nat} {ls : List (Nat × Value)} {rest : List Value} {g : am_G} {r : Option Value × am_G} {ls' : List (Nat × Value)} {i : Nat} (hd : decode M.2.1 pc = .ok (.astore i, 2)) (hn : i < M.2.2.1) (hls : (i, .null) :: ls.filter (fun q => !(q.1 == i) && !(q.1 + 1 == i && q.2.category == 2)) = ls') (kk : am_Ev Z M d (pc + 2) ls' rest g r) : am_Ev Z M d pc ls (.null :: rest) g r := by
  refine ⟨kk.1, ?_⟩
  intro p l e R s m args below meth c σ τ D dA A α0 n0 s0 C α H locs la V hst
  refine lv_astoreN C.1 C.2.1 hd V.2.2.2.2.2.2.2.2 hn (lv' := ls'.map fun q => (q.1, am_cv σ α q.2)) (by rw [am_filt, ← hls]; rfl) (fun la' hl => ?_)
  exact kk.2 p l e R s m args below meth c σ τ D dA A α0 n0 s0 C α H locs la' (V.store hst.1 hls hl) hst.2
theorem ev_iinc {Z : am_Z} {M : am_M} {d pc : Nat} {ls : List (Nat × Value)} {rest : List Value} {g : am_G} {r : Option Value × am_G} {ls' : List (Nat × Value)} {x v : Int32} {i : Nat} {n : Int} (k : Nat) (hd : decode M.2.1 pc = .ok (.iinc i n, 3)) (hl : ls[k]? = some (i, .int x)) (hv : x + Int32.ofInt n = v) (hn : i < M.2.2.1) (hls : (i, .int v) :: ls.filter (fun q => !(q.1 == i) && !(q.1 + 1 == i && q.2.category == 2)) = ls') (kk : am_Ev Z M d (pc + 3) ls' rest g r) : am_Ev Z M d pc ls rest g r := by
  refine ⟨kk.1, ?_⟩
  intro p l e R s m args below meth c σ τ D dA A α0 n0 s0 C α H locs la V hst
  refine lv_iinc (k := k) (x := x) (v := v) C.1 C.2.1 hd V.2.2.2.2.2.2.2.2 (by rw [List.getElem?_map, hl]; rfl) hv hn (lv' := ls'.map fun q => (q.1, am_cv σ α q.2)) (by rw [am_filt, ← hls]; rfl) (fun la' hl => ?_)
  exact kk.2 p l e R s m args below meth c σ τ D dA A α0 n0 s0 C α H locs la' (V.store (v := .int v) trivial hls hl) hst
theorem ev_iadd {Z : am_Z} {M : am_M} {d pc : Nat} {ls : List (Nat × Value)} {rest : List Value} {g : am_G} {r : Option Value × am_G} {x y : Int32} (hd : decode M.2.1 pc = .ok (.iadd, 1)) (kk : am_Ev Z M d (pc + 1) ls (.int (x + y) :: rest) g r) : am_Ev Z M d pc ls (.int y :: .int x :: rest) g r := by
  refine ⟨kk.1, ?_⟩
  intro p l e R s m args below meth c σ τ D dA A α0 n0 s0 C α H locs la V hst
  exact lv_iadd C.1 C.2.1 hd (kk.2 p l e R s m args below meth c σ τ D dA A α0 n0 s0 C α H locs la V ⟨trivial, hst.2.2⟩)
theorem ev_isub {Z : am_Z} {M : am_M} {d pc : Nat} {ls : List (Nat × Value)} {rest : List Value} {g : am_G} {r : Option Value × am_G} {x y : Int32} (hd : decode M.2.1 pc = .ok (.isub, 1)) (kk : am_Ev Z M d (pc + 1) ls (.int (x - y) :: rest) g r) : am_Ev Z M d pc ls (.int y :: .int x :: rest) g r := by
  refine ⟨kk.1, ?_⟩
  intro p l e R s m args below meth c σ τ D dA A α0 n0 s0 C α H locs la V hst
  exact lv_isub C.1 C.2.1 hd (kk.2 p l e R s m args below meth c σ τ D dA A α0 n0 s0 C α H locs la V ⟨trivial, hst.2.2⟩)
theorem ev_imul {Z : am_Z} {M : am_M} {d pc : Nat} {ls : List (Nat × Value)} {rest : List Value} {g : am_G} {r : Option Value × am_G} {x y : Int32} (hd : decode M.2.1 pc = .ok (.imul, 1)) (kk : am_Ev Z M d (pc + 1) ls (.int (x * y) :: rest) g r) : am_Ev Z M d pc ls (.int y :: .int x :: rest) g r := by
  refine ⟨kk.1, ?_⟩
  intro p l e R s m args below meth c σ τ D dA A α0 n0 s0 C α H locs la V hst
  exact lv_imul C.1 C.2.1 hd (kk.2 p l e R s m args below meth c σ τ D dA A α0 n0 s0 C α H locs la V ⟨trivial, hst.2.2⟩)
theorem ev_iand {Z : am_Z} {M : am_M} {d pc : Nat} {ls : List (Nat × Value)} {rest : List Value} {g : am_G} {r : Option Value × am_G} {x y : Int32} (hd : decode M.2.1 pc = .ok (.iand, 1)) (kk : am_Ev Z M d (pc + 1) ls (.int (x &&& y) :: rest) g r) : am_Ev Z M d pc ls (.int y :: .int x :: rest) g r := by
  refine ⟨kk.1, ?_⟩
  intro p l e R s m args below meth c σ τ D dA A α0 n0 s0 C α H locs la V hst
  exact lv_iand C.1 C.2.1 hd (kk.2 p l e R s m args below meth c σ τ D dA A α0 n0 s0 C α H locs la V ⟨trivial, hst.2.2⟩)
theorem ev_ior {Z : am_Z} {M : am_M} {d pc : Nat} {ls : List (Nat × Value)} {rest : List Value} {g : am_G} {r : Option Value × am_G} {x y : Int32} (hd : decode M.2.1 pc = .ok (.ior, 1)) (kk : am_Ev Z M d (pc + 1) ls (.int (x ||| y) :: rest) g r) : am_Ev Z M d pc ls (.int y :: .int x :: rest) g r := by
  refine ⟨kk.1, ?_⟩
  intro p l e R s m args below meth c σ τ D dA A α0 n0 s0 C α H locs la V hst
  exact lv_ior C.1 C.2.1 hd (kk.2 p l e R s m args below meth c σ τ D dA A α0 n0 s0 C α H locs la V ⟨trivial, hst.2.2⟩)
theorem ev_ishl {Z : am_Z} {M : am_M} {d pc : Nat} {ls : List (Nat × Value)} {rest : List Value} {g : am_G} {r : Option Value × am_G} {x y : Int32} (hd : decode M.2.1 pc = .ok (.ishl, 1)) (kk : am_Ev Z M d (pc + 1) ls (.int (x <<< (y &&& 31)) :: rest) g r) : am_Ev Z M d pc ls (.int y :: .int x :: rest) g r := by
  refine ⟨kk.1, ?_⟩
  intro p l e R s m args below meth c σ τ D dA A α0 n0 s0 C α H locs la V hst
  exact lv_ishl C.1 C.2.1 hd (kk.2 p l e R s m args below meth c σ τ D dA A α0 n0 s0 C α H locs la V ⟨trivial, hst.2.2⟩)
theorem ev_ishr {Z : am_Z} {M : am_M} {d pc : Nat} {ls : List (Nat × Value)} {rest : List Value} {g : am_G} {r : Option Value × am_G} {x y : Int32} (hd : decode M.2.1 pc = .ok (.ishr, 1)) (kk : am_Ev Z M d (pc + 1) ls (.int (x >>> (y &&& 31)) :: rest) g r) : am_Ev Z M d pc ls (.int y :: .int x :: rest) g r := by
  refine ⟨kk.1, ?_⟩
  intro p l e R s m args below meth c σ τ D dA A α0 n0 s0 C α H locs la V hst
  exact lv_ishr C.1 C.2.1 hd (kk.2 p l e R s m args below meth c σ τ D dA A α0 n0 s0 C α H locs la V ⟨trivial, hst.2.2⟩)
theorem ev_idiv {Z : am_Z} {M : am_M} {d pc : Nat} {ls : List (Nat × Value)} {rest : List Value} {g : am_G} {r : Option Value × am_G} {x y : Int32} (hd : decode M.2.1 pc = .ok (.idiv, 1)) (hne : ¬ y = 0) (kk : am_Ev Z M d (pc + 1) ls (.int (x / y) :: rest) g r) : am_Ev Z M d pc ls (.int y :: .int x :: rest) g r := by
  refine ⟨kk.1, ?_⟩
  intro p l e R s m args below meth c σ τ D dA A α0 n0 s0 C α H locs la V hst
  exact lv_idiv C.1 C.2.1 hd hne (kk.2 p l e R s m args below meth c σ τ D dA A α0 n0 s0 C α H locs la V ⟨trivial, hst.2.2⟩)
theorem ev_irem {Z : am_Z} {M : am_M} {d pc : Nat} {ls : List (Nat × Value)} {rest : List Value} {g : am_G} {r : Option Value × am_G} {x y : Int32} (hd : decode M.2.1 pc = .ok (.irem, 1)) (hne : ¬ y = 0) (kk : am_Ev Z M d (pc + 1) ls (.int (x - x / y * y) :: rest) g r) : am_Ev Z M d pc ls (.int y :: .int x :: rest) g r := by
  refine ⟨kk.1, ?_⟩
  intro p l e R s m args below meth c σ τ D dA A α0 n0 s0 C α H locs la V hst
  exact lv_irem C.1 C.2.1 hd hne (kk.2 p l e R s m args below meth c σ τ D dA A α0 n0 s0 C α H locs la V ⟨trivial, hst.2.2⟩)
theorem ev_ladd {Z : am_Z} {M : am_M} {d pc : Nat} {ls : List (Nat × Value)} {rest : List Value} {g : am_G} {r : Option Value × am_G} {x y : Int64} (hd : decode M.2.1 pc = .ok (.ladd, 1)) (kk : am_Ev Z M d (pc + 1) ls (.long (x + y) :: rest) g r) : am_Ev Z M d pc ls (.long y :: .long x :: rest) g r := by
  refine ⟨kk.1, ?_⟩
  intro p l e R s m args below meth c σ τ D dA A α0 n0 s0 C α H locs la V hst
  exact lv_ladd C.1 C.2.1 hd (kk.2 p l e R s m args below meth c σ τ D dA A α0 n0 s0 C α H locs la V ⟨trivial, hst.2.2⟩)
theorem ev_lsub {Z : am_Z} {M : am_M} {d pc : Nat} {ls : List (Nat × Value)} {rest : List Value} {g : am_G} {r : Option Value × am_G} {x y : Int64} (hd : decode M.2.1 pc = .ok (.lsub, 1)) (kk : am_Ev Z M d (pc + 1) ls (.long (x - y) :: rest) g r) : am_Ev Z M d pc ls (.long y :: .long x :: rest) g r := by
  refine ⟨kk.1, ?_⟩
  intro p l e R s m args below meth c σ τ D dA A α0 n0 s0 C α H locs la V hst
  exact lv_lsub C.1 C.2.1 hd (kk.2 p l e R s m args below meth c σ τ D dA A α0 n0 s0 C α H locs la V ⟨trivial, hst.2.2⟩)
theorem ev_lmul {Z : am_Z} {M : am_M} {d pc : Nat} {ls : List (Nat × Value)} {rest : List Value} {g : am_G} {r : Option Value × am_G} {x y : Int64} (hd : decode M.2.1 pc = .ok (.lmul, 1)) (kk : am_Ev Z M d (pc + 1) ls (.long (x * y) :: rest) g r) : am_Ev Z M d pc ls (.long y :: .long x :: rest) g r := by
  refine ⟨kk.1, ?_⟩
  intro p l e R s m args below meth c σ τ D dA A α0 n0 s0 C α H locs la V hst
  exact lv_lmul C.1 C.2.1 hd (kk.2 p l e R s m args below meth c σ τ D dA A α0 n0 s0 C α H locs la V ⟨trivial, hst.2.2⟩)
theorem ev_ldiv {Z : am_Z} {M : am_M} {d pc : Nat} {ls : List (Nat × Value)} {rest : List Value} {g : am_G} {r : Option Value × am_G} {x y : Int64} (hd : decode M.2.1 pc = .ok (.ldiv, 1)) (hne : ¬ y = 0) (kk : am_Ev Z M d (pc + 1) ls (.long (x / y) :: rest) g r) : am_Ev Z M d pc ls (.long y :: .long x :: rest) g r := by
  refine ⟨kk.1, ?_⟩
  intro p l e R s m args below meth c σ τ D dA A α0 n0 s0 C α H locs la V hst
  exact lv_ldiv C.1 C.2.1 hd hne (kk.2 p l e R s m args below meth c σ τ D dA A α0 n0 s0 C α H locs la V ⟨trivial, hst.2.2⟩)
theorem ev_lrem {Z : am_Z} {M : am_M} {d pc : Nat} {ls : List (Nat × Value)} {rest : List Value} {g : am_G} {r : Option Value × am_G} {x y : Int64} (hd : decode M.2.1 pc = .ok (.lrem, 1)) (hne : ¬ y = 0) (kk : am_Ev Z M d (pc + 1) ls (.long (x - x / y * y) :: rest) g r) : am_Ev Z M d pc ls (.long y :: .long x :: rest) g r := by
  refine ⟨kk.1, ?_⟩
  intro p l e R s m args below meth c σ τ D dA A α0 n0 s0 C α H locs la V hst
  exact lv_lrem C.1 C.2.1 hd hne (kk.2 p l e R s m args below meth c σ τ D dA A α0 n0 s0 C α H locs la V ⟨trivial, hst.2.2⟩)
theorem ev_ineg {Z : am_Z} {M : am_M} {d pc : Nat} {ls : List (Nat × Value)} {rest : List Value} {g : am_G} {r : Option Value × am_G} {x : Int32} (hd : decode M.2.1 pc = .ok (.ineg, 1)) (kk : am_Ev Z M d (pc + 1) ls (.int (-x) :: rest) g r) : am_Ev Z M d pc ls (.int x :: rest) g r := by
  refine ⟨kk.1, ?_⟩
  intro p l e R s m args below meth c σ τ D dA A α0 n0 s0 C α H locs la V hst
  exact lv_ineg C.1 C.2.1 hd (kk.2 p l e R s m args below meth c σ τ D dA A α0 n0 s0 C α H locs la V ⟨trivial, hst.2⟩)
theorem ev_i2l {Z : am_Z} {M : am_M} {d pc : Nat} {ls : List (Nat × Value)} {rest : List Value} {g : am_G} {r : Option Value × am_G} {x : Int32} (hd : decode M.2.1 pc = .ok (.i2l, 1)) (kk : am_Ev Z M d (pc + 1) ls (.long x.toInt64 :: rest) g r) : am_Ev Z M d pc ls (.int x :: rest) g r := by
  refine ⟨kk.1, ?_⟩
  intro p l e R s m args below meth c σ τ D dA A α0 n0 s0 C α H locs la V hst
  exact lv_i2l C.1 C.2.1 hd rfl (kk.2 p l e R s m args below meth c σ τ D dA A α0 n0 s0 C α H locs la V ⟨trivial, hst.2⟩)
theorem ev_l2i {Z : am_Z} {M : am_M} {d pc : Nat} {ls : List (Nat × Value)} {rest : List Value} {g : am_G} {r : Option Value × am_G} {x : Int64} (hd : decode M.2.1 pc = .ok (.l2i, 1)) (kk : am_Ev Z M d (pc + 1) ls (.int x.toInt32 :: rest) g r) : am_Ev Z M d pc ls (.long x :: rest) g r := by
  refine ⟨kk.1, ?_⟩
  intro p l e R s m args below meth c σ τ D dA A α0 n0 s0 C α H locs la V hst
  exact lv_l2i C.1 C.2.1 hd rfl (kk.2 p l e R s m args below meth c σ τ D dA A α0 n0 s0 C α H locs la V ⟨trivial, hst.2⟩)
theorem ev_i2b {Z : am_Z} {M : am_M} {d pc : Nat} {ls : List (Nat × Value)} {rest : List Value} {g : am_G} {r : Option Value × am_G} {x : Int32} (hd : decode M.2.1 pc = .ok (.i2b, 1)) (kk : am_Ev Z M d (pc + 1) ls (.int x.toInt8.toInt32 :: rest) g r) : am_Ev Z M d pc ls (.int x :: rest) g r := by
  refine ⟨kk.1, ?_⟩
  intro p l e R s m args below meth c σ τ D dA A α0 n0 s0 C α H locs la V hst
  exact lv_i2b C.1 C.2.1 hd rfl (kk.2 p l e R s m args below meth c σ τ D dA A α0 n0 s0 C α H locs la V ⟨trivial, hst.2⟩)
theorem ev_lcmp {Z : am_Z} {M : am_M} {d pc : Nat} {ls : List (Nat × Value)} {rest : List Value} {g : am_G} {r : Option Value × am_G} {x y : Int64} (hd : decode M.2.1 pc = .ok (.lcmp, 1)) (kk : am_Ev Z M d (pc + 1) ls (.int (lg_cmp x y) :: rest) g r) : am_Ev Z M d pc ls (.long y :: .long x :: rest) g r := by
  refine ⟨kk.1, ?_⟩
  intro p l e R s m args below meth c σ τ D dA A α0 n0 s0 C α H locs la V hst
  exact W.lcmp C.1 C.2.1 hd (kk.2 p l e R s m args below meth c σ τ D dA A α0 n0 s0 C α H locs la V ⟨trivial, hst.2.2⟩)
theorem ev_dup {Z : am_Z} {M : am_M} {d pc : Nat} {ls : List (Nat × Value)} {rest : List Value} {g : am_G} {r : Option Value × am_G} {v : Value} (hd : decode M.2.1 pc = .ok (.dup, 1)) (hv : v.category = 1) (kk : am_Ev Z M d (pc + 1) ls (v :: v :: rest) g r) : am_Ev Z M d pc ls (v :: rest) g r := by
  refine ⟨kk.1, ?_⟩
  intro p l e R s m args below meth c σ τ D dA A α0 n0 s0 C α H locs la V hst
  exact lv_dup C.1 C.2.1 hd ((am_cat σ α v).trans hv) (kk.2 p l e R s m args below meth c σ τ D dA A α0 n0 s0 C α H locs la V ⟨hst.1, hst⟩)
theorem ev_pop {Z : am_Z} {M : am_M} {d pc : Nat} {ls : List (Nat × Value)} {rest : List Value} {g : am_G} {r : Option Value × am_G} {v : Value} (hd : decode M.2.1 pc = .ok (.pop, 1)) (hv : v.category = 1) (kk : am_Ev Z M d (pc + 1) ls (rest) g r) : am_Ev Z M d pc ls (v :: rest) g r := by
  refine ⟨kk.1, ?_⟩
  intro p l e R s m args below meth c σ τ D dA A α0 n0 s0 C α H locs la V hst
  exact lv_pop C.1 C.2.1 hd ((am_cat σ α v).trans hv) (kk.2 p l e R s m args below meth c σ τ D dA A α0 n0 s0 C α H locs la V hst.2)
theorem ev_dup2 {Z : am_Z} {M : am_M} {d pc : Nat} {ls : List (Nat × Value)} {rest : List Value} {g : am_G} {r : Option Value × am_G} {v w : Value} (hd : decode M.2.1 pc = .ok (.dup2, 1)) (hv : v.category = 1) (hw : w.category = 1) (kk : am_Ev Z M d (pc + 1) ls (v :: w :: v :: w :: rest) g r) : am_Ev Z M d pc ls (v :: w :: rest) g r := by
  refine ⟨kk.1, ?_⟩
  intro p l e R s m args below meth c σ τ D dA A α0 n0 s0 C α H locs la V hst
  exact lv_dup2_11 C.1 C.2.1 hd ((am_cat σ α v).trans hv) ((am_cat σ α w).trans hw) (kk.2 p l e R s m args below meth c σ τ D dA A α0 n0 s0 C α H locs la V ⟨hst.1, hst.2.1, hst⟩)
theorem ev_dup2l {Z : am_Z} {M : am_M} {d pc : Nat} {ls : List (Nat × Value)} {rest : List Value} {g : am_G} {r : Option Value × am_G} {v : Value} (hd : decode M.2.1 pc = .ok (.dup2, 1)) (hv : v.category = 2) (kk : am_Ev Z M d (pc + 1) ls (v :: v :: rest) g r) : am_Ev Z M d pc ls (v :: rest) g r := by
  refine ⟨kk.1, ?_⟩
  intro p l e R s m args below meth c σ τ D dA A α0 n0 s0 C α H locs la V hst
  exact lv_dup2_2 C.1 C.2.1 hd ((am_cat σ α v).trans hv) (kk.2 p l e R s m args below meth c σ τ D dA A α0 n0 s0 C α H locs la V ⟨hst.1, hst⟩)
theorem ev_if_eq {Z : am_Z} {M : am_M} {d pc : Nat} {ls : List (Nat × Value)} {rest : List Value} {g : am_G} {r : Option Value × am_G} {x : Int32} {off : Int} (tgt : Nat) (hd : decode M.2.1 pc = .ok (.ifCond .eq off, 3)) (ht : (pc : Int) + off = (tgt : Int)) (kt : x = 0 → am_Ev Z M d tgt ls rest g r) (kf : ¬ x = 0 → am_Ev Z M d (pc + 3) ls rest g r) : am_Ev Z M d pc ls (.int x :: rest) g r := by
  refine ⟨?_, ?_⟩
  · by_cases hz : x = 0
    · exact (kt hz).1
    · exact (kf hz).1
  intro p l e R s m args below meth c σ τ D dA A α0 n0 s0 C α H locs la V hst
  exact lv_if_eq C.1 C.2.1 hd ht (fun hz => (kt hz).2 p l e R s m args below meth c σ τ D dA A α0 n0 s0 C α H locs la V hst.2) (fun hz => (kf hz).2 p l e R s m args below meth c σ τ D dA A α0 n0 s0 C α H locs la V hst.2)
theorem ev_if_ne {Z : am_Z} {M : am_M} {d pc : Nat} {ls : List (Nat × Value)} {rest : List Value} {g : am_G} {r : Option Value × am_G} {x : Int32} {off : Int} (tgt : Nat) (hd : decode M.2.1 pc = .ok (.ifCond .ne off, 3)) (ht : (pc : Int) + off = (tgt : Int)) (kt : ¬ x = 0 → am_Ev Z M d tgt ls rest g r) (kf : x = 0 → am_Ev Z M d (pc + 3) ls rest g r) : am_Ev Z M d pc ls (.int x :: rest) g r := by
  refine ⟨?_, ?_⟩
  · by_cases hz : x = 0
    · exact (kf hz).1
    · exact (kt hz).1
  intro p l e R s m args below meth c σ τ D dA A α0 n0 s0 C α H locs la V hst
  exact lv_if_ne C.1 C.2.1 hd ht (fun hz => (kt hz).2 p l e R s m args below meth c σ τ D dA A α0 n0 s0 C α H locs la V hst.2) (fun hz => (kf hz).2 p l e R s m args below meth c σ τ D dA A α0 n0 s0 C α H locs la V hst.2)
theorem ev_if_lt {Z : am_Z} {M : am_M} {d pc : Nat} {ls : List (Nat × Value)} {rest : List Value} {g : am_G} {r : Option Value × am_G} {x : Int32} {off : Int} (tgt : Nat) (hd : decode M.2.1 pc = .ok (.ifCond .lt off, 3)) (ht : (pc : Int) + off = (tgt : Int)) (kt : x < 0 → am_Ev Z M d tgt ls rest g r) (kf : ¬ x < 0 → am_Ev Z M d (pc + 3) ls rest g r) : am_Ev Z M d pc ls (.int x :: rest) g r := by
  refine ⟨?_, ?_⟩
  · by_cases hz : x < 0
    · exact (kt hz).1
    · exact (kf hz).1
  intro p l e R s m args below meth c σ τ D dA A α0 n0 s0 C α H locs la V hst
  exact lv_if_lt C.1 C.2.1 hd ht (fun hz => (kt hz).2 p l e R s m args below meth c σ τ D dA A α0 n0 s0 C α H locs la V hst.2) (fun hz => (kf hz).2 p l e R s m args below meth c σ τ D dA A α0 n0 s0 C α H locs la V hst.2)
theorem ev_if_ge {Z : am_Z} {M : am_M} {d pc : Nat} {ls : List (Nat × Value)} {rest : List Value} {g : am_G} {r : Option Value × am_G} {x : Int32} {off : Int} (tgt : Nat) (hd : decode M.2.1 pc = .ok (.ifCond .ge off, 3)) (ht : (pc : Int) + off = (tgt : Int)) (kt : 0 ≤ x → am_Ev Z M d tgt ls rest g r) (kf : ¬ 0 ≤ x → am_Ev Z M d (pc + 3) ls rest g r) : am_Ev Z M d pc ls (.int x :: rest) g r := by
  refine ⟨?_, ?_⟩
  · by_cases hz : 0 ≤ x
    · exact (kt hz).1
    · exact (kf hz).1
  intro p l e R s m args below meth c σ τ D dA A α0 n0 s0 C α H locs la V hst
  exact lv_if_ge C.1 C.2.1 hd ht (fun hz => (kt hz).2 p l e R s m args below meth c σ τ D dA A α0 n0 s0 C α H locs la V hst.2) (fun hz => (kf hz).2 p l e R s m args below meth c σ τ D dA A α0 n0 s0 C α H locs la V hst.2)
theorem ev_if_gt {Z : am_Z} {M : am_M} {d pc : Nat} {ls : List (Nat × Value)} {rest : List Value} {g : am_G} {r : Option Value × am_G} {x : Int32} {off : Int} (tgt : Nat) (hd : decode M.2.1 pc = .ok (.ifCond .gt off, 3)) (ht : (pc : Int) + off = (tgt : Int)) (kt : 0 < x → am_Ev Z M d tgt ls rest g r) (kf : ¬ 0 < x → am_Ev Z M d (pc + 3) ls rest g r) : am_Ev Z M d pc ls (.int x :: rest) g r := by
  refine ⟨?_, ?_⟩
  · by_cases hz : 0 < x
    · exact (kt hz).1
    · exact (kf hz).1
  intro p l e R s m args below meth c σ τ D dA A α0 n0 s0 C α H locs la V hst
  exact lv_if_gt C.1 C.2.1 hd ht (fun hz => (kt hz).2 p l e R s m args below meth c σ τ D dA A α0 n0 s0 C α H locs la V hst.2) (fun hz => (kf hz).2 p l e R s m args below meth c σ τ D dA A α0 n0 s0 C α H locs la V hst.2)
theorem ev_if_le {Z : am_Z} {M : am_M} {d pc : Nat} {ls : List (Nat × Value)} {rest : List Value} {g : am_G} {r : Option Value × am_G} {x : Int32} {off : Int} (tgt : Nat) (hd : decode M.2.1 pc = .ok (.ifCond .le off, 3)) (ht : (pc : Int) + off = (tgt : Int)) (kt : x ≤ 0 → am_Ev Z M d tgt ls rest g r) (kf : ¬ x ≤ 0 → am_Ev Z M d (pc + 3) ls rest g r) : am_Ev Z M d pc ls (.int x :: rest) g r := by
  refine ⟨?_, ?_⟩
  · by_cases hz : x ≤ 0
    · exact (kt hz).1
    · exact (kf hz).1
  intro p l e R s m args below meth c σ τ D dA A α0 n0 s0 C α H locs la V hst
  exact lv_if_le C.1 C.2.1 hd ht (fun hz => (kt hz).2 p l e R s m args below meth c σ τ D dA A α0 n0 s0 C α H locs la V hst.2) (fun hz => (kf hz).2 p l e R s m args below meth c σ τ D dA A α0 n0 s0 C α H locs la V hst.2)
theorem ev_icmp_eq {Z : am_Z} {M : am_M} {d pc : Nat} {ls : List (Nat × Value)} {rest : List Value} {g : am_G} {r : Option Value × am_G} {x y : Int32} {off : Int} (tgt : Nat) (hd : decode M.2.1 pc = .ok (.if_icmp .eq off, 3)) (ht : (pc : Int) + off = (tgt : Int)) (kt : x = y → am_Ev Z M d tgt ls rest g r) (kf : ¬ x = y → am_Ev Z M d (pc + 3) ls rest g r) : am_Ev Z M d pc ls (.int y :: .int x :: rest) g r := by
  refine ⟨?_, ?_⟩
  · by_cases hz : x = y
    · exact (kt hz).1
    · exact (kf hz).1
  intro p l e R s m args below meth c σ τ D dA A α0 n0 s0 C α H locs la V hst
  exact lv_icmp_eq C.1 C.2.1 hd ht (fun hz => (kt hz).2 p l e R s m args below meth c σ τ D dA A α0 n0 s0 C α H locs la V hst.2.2) (fun hz => (kf hz).2 p l e R s m args below meth c σ τ D dA A α0 n0 s0 C α H locs la V hst.2.2)
theorem ev_icmp_ne {Z : am_Z} {M : am_M} {d pc : Nat} {ls : List (Nat × Value)} {rest : List Value} {g : am_G} {r : Option Value × am_G} {x y : Int32} {off : Int} (tgt : Nat) (hd : decode M.2.1 pc = .ok (.if_icmp .ne off, 3)) (ht : (pc : Int) + off = (tgt : Int)) (kt : ¬ x = y → am_Ev Z M d tgt ls rest g r) (kf : x = y → am_Ev Z M d (pc + 3) ls rest g r) : am_Ev Z M d pc ls (.int y :: .int x :: rest) g r := by
  refine ⟨?_, ?_⟩
  · by_cases hz : x = y
    · exact (kf hz).1
    · exact (kt hz).1
  intro p l e R s m args below meth c σ τ D dA A α0 n0 s0 C α H locs la V hst
  exact lv_icmp_ne C.1 C.2.1 hd ht (fun hz => (kt hz).2 p l e R s m args below meth c σ τ D dA A α0 n0 s0 C α H locs la V hst.2.2) (fun hz => (kf hz).2 p l e R s m args below meth c σ τ D dA A α0 n0 s0 C α H locs la V hst.2.2)
theorem ev_icmp_lt {Z : am_Z} {M : am_M} {d pc : Nat} {ls : List (Nat × Value)} {rest : List Value} {g : am_G} {r : Option Value × am_G} {x y : Int32} {off : Int} (tgt : Nat) (hd : decode M.2.1 pc = .ok (.if_icmp .lt off, 3)) (ht : (pc : Int) + off = (tgt : Int)) (kt : x < y → am_Ev Z M d tgt ls rest g r) (kf : ¬ x < y → am_Ev Z M d (pc + 3) ls rest g r) : am_Ev Z M d pc ls (.int y :: .int x :: rest) g r := by
  refine ⟨?_, ?_⟩
  · by_cases hz : x < y
    · exact (kt hz).1
    · exact (kf hz).1
  intro p l e R s m args below meth c σ τ D dA A α0 n0 s0 C α H locs la V hst
  exact lv_icmp_lt C.1 C.2.1 hd ht (fun hz => (kt hz).2 p l e R s m args below meth c σ τ D dA A α0 n0 s0 C α H locs la V hst.2.2) (fun hz => (kf hz).2 p l e R s m args below meth c σ τ D dA A α0 n0 s0 C α H locs la V hst.2.2)
theorem ev_icmp_ge {Z : am_Z} {M : am_M} {d pc : Nat} {ls : List (Nat × Value)} {rest : List Value} {g : am_G} {r : Option Value × am_G} {x y : Int32} {off : Int} (tgt : Nat) (hd : decode M.2.1 pc = .ok (.if_icmp .ge off, 3)) (ht : (pc : Int) + off = (tgt : Int)) (kt : y ≤ x → am_Ev Z M d tgt ls rest g r) (kf : ¬ y ≤ x → am_Ev Z M d (pc + 3) ls rest g r) : am_Ev Z M d pc ls (.int y :: .int x :: rest) g r := by
  refine ⟨?_, ?_⟩
  · by_cases hz : y ≤ x
    · exact (kt hz).1
    · exact (kf hz).1
  intro p l e R s m args below meth c σ τ D dA A α0 n0 s0 C α H locs la V hst
  exact lv_icmp_ge C.1 C.2.1 hd ht (fun hz => (kt hz).2 p l e R s m args below meth c σ τ D dA A α0 n0 s0 C α H locs la V hst.2.2) (fun hz => (kf hz).2 p l e R s m args below meth c σ τ D dA A α0 n0 s0 C α H locs la V hst.2.2)
theorem ev_icmp_gt {Z : am_Z} {M : am_M} {d pc : Nat} {ls : List (Nat × Value)} {rest : List Value} {g : am_G} {r : Option Value × am_G} {x y : Int32} {off : Int} (tgt : Nat) (hd : decode M.2.1 pc = .ok (.if_icmp .gt off, 3)) (ht : (pc : Int) + off = (tgt : Int)) (kt : y < x → am_Ev Z M d tgt ls rest g r) (kf : ¬ y < x → am_Ev Z M d (pc + 3) ls rest g r) : am_Ev Z M d pc ls (.int y :: .int x :: rest) g r := by
  refine ⟨?_, ?_⟩
  · by_cases hz : y < x
    · exact (kt hz).1
    · exact (kf hz).1
  intro p l e R s m args below meth c σ τ D dA A α0 n0 s0 C α H locs la V hst
  exact lv_icmp_gt C.1 C.2.1 hd ht (fun hz => (kt hz).2 p l e R s m args below meth c σ τ D dA A α0 n0 s0 C α H locs la V hst.2.2) (fun hz => (kf hz).2 p l e R s m args below meth c σ τ D dA A α0 n0 s0 C α H locs la V hst.2.2)
theorem ev_icmp_le {Z : am_Z} {M : am_M} {d pc : Nat} {ls : List (Nat × Value)} {rest : List Value} {g : am_G} {r : Option Value × am_G} {x y : Int32} {off : Int} (tgt : Nat) (hd : decode M.2.1 pc = .ok (.if_icmp .le off, 3)) (ht : (pc : Int) + off = (tgt : Int)) (kt : x ≤ y → am_Ev Z M d tgt ls rest g r) (kf : ¬ x ≤ y → am_Ev Z M d (pc + 3) ls rest g r) : am_Ev Z M d pc ls (.int y :: .int x :: rest) g r := by
  refine ⟨?_, ?_⟩
  · by_cases hz : x ≤ y
    · exact (kt hz).1
    · exact (kf hz).1
  intro p l e R s m args below meth c σ τ D dA A α0 n0 s0 C α H locs la V hst
  exact lv_icmp_le C.1 C.2.1 hd ht (fun hz => (kt hz).2 p l e R s m args below meth c σ τ D dA A α0 n0 s0 C α H locs la V hst.2.2) (fun hz => (kf hz).2 p l e R s m args below meth c σ τ D dA A α0 n0 s0 C α H locs la V hst.2.2)
theorem ev_goto {Z : am_Z} {M : am_M} {d pc : Nat} {ls : List (Nat × Value)} {rest : List Value} {g : am_G} {r : Option Value × am_G} {off : Int} (tgt : Nat) (hd : decode M.2.1 pc = .ok (.goto off, 3)) (ht : (pc : Int) + off = (tgt : Int)) (kk : am_Ev Z M d tgt ls rest g r) : am_Ev Z M d pc ls (rest) g r := by
  refine ⟨kk.1, ?_⟩
  intro p l e R s m args below meth c σ τ D dA A α0 n0 s0 C α H locs la V hst
  exact lv_goto C.1 C.2.1 hd ht (kk.2 p l e R s m args below meth c σ τ D dA A α0 n0 s0 C α H locs la V hst)
theorem ev_ifnullN {Z : am_Z} {M : am_M} {d pc : Nat} {ls : List (Nat × Value)} {rest : List Value} {g : am_G} {r : Option Value × am_G} {off : Int} (tgt : Nat) (hd : decode M.2.1 pc = .ok (.ifnull off, 3)) (ht : (pc : Int) + off = (tgt : Int)) (kk : am_Ev Z M d tgt ls rest g r) : am_Ev Z M d pc ls (.null :: rest) g r := by
  refine ⟨kk.1, ?_⟩
  intro p l e R s m args below meth c σ τ D dA A α0 n0 s0 C α H locs la V hst
  exact lv_ifnullN C.1 C.2.1 hd ht (kk.2 p l e R s m args below meth c σ τ D dA A α0 n0 s0 C α H locs la V hst.2)
theorem ev_ifnull {Z : am_Z} {M : am_M} {d pc : Nat} {ls : List (Nat × Value)} {rest : List Value} {g : am_G} {r : Option Value × am_G} {off : Int} {x : Nat} (hd : decode M.2.1 pc = .ok (.ifnull off, 3)) (kk : am_Ev Z M d (pc + 3) ls rest g r) : am_Ev Z M d pc ls (.ref x :: rest) g r := by
  refine ⟨kk.1, ?_⟩
  intro p l e R s m args below meth c σ τ D dA A α0 n0 s0 C α H locs la V hst
  exact lv_ifnull C.1 C.2.1 hd (kk.2 p l e R s m args below meth c σ τ D dA A α0 n0 s0 C α H locs la V hst.2)
theorem ev_ifnonnullN {Z : am_Z} {M : am_M} {d pc : Nat} {ls : List (Nat × Value)} {rest : List Value} {g : am_G} {r : Option Value × am_G} {off : Int} (hd : decode M.2.1 pc = .ok (.ifnonnull off, 3)) (kk : am_Ev Z M d (pc + 3) ls rest g r) : am_Ev Z M d pc ls (.null :: rest) g r := by
  refine ⟨kk.1, ?_⟩
  intro p l e R s m args below meth c σ τ D dA A α0 n0 s0 C α H locs la V hst
  exact lv_ifnonnullN C.1 C.2.1 hd (kk.2 p l e R s m args below meth c σ τ D dA A α0 n0 s0 C α H locs la V hst.2)
theorem ev_ifnonnull {Z : am_Z} {M : am_M} {d pc : Nat} {ls : List (Nat × Value)} {rest : List Value} {g : am_G} {r : Option Value × am_G} {off : Int} {x : Nat} (tgt : Nat) (hd : decode M.2.1 pc = .ok (.ifnonnull off, 3)) (ht : (pc : Int) + off = (tgt : Int)) (kk : am_Ev Z M d tgt ls rest g r) : am_Ev Z M d pc ls (.ref x :: rest) g r := by
  refine ⟨kk.1, ?_⟩
  intro p l e R s m args below meth c σ τ D dA A α0 n0 s0 C α H locs la V hst
  exact lv_ifnonnull C.1 C.2.1 hd ht (kk.2 p l e R s m args below meth c σ τ D dA A α0 n0 s0 C α H locs la V hst.2)
theorem ev_tableOut {Z : am_Z} {M : am_M} {d pc : Nat} {ls : List (Nat × Value)} {rest : List Value} {g : am_G} {r : Option Value × am_G} {dflt lo hi : Int} {offs : Array Int} {len : Nat} {x : Int32} (tgt : Nat) (hd : decode M.2.1 pc = .ok (.tableswitch dflt lo hi offs, len)) (h : x.toInt < lo ∨ hi < x.toInt) (ht : (pc : Int) + dflt = (tgt : Int)) (kk : am_Ev Z M d tgt ls rest g r) : am_Ev Z M d pc ls (.int x :: rest) g r := by
  refine ⟨kk.1, ?_⟩
  intro p l e R s m args below meth c σ τ D dA A α0 n0 s0 C α H locs la V hst
  exact lv_tableOut C.1 C.2.1 hd h ht (kk.2 p l e R s m args below meth c σ τ D dA A α0 n0 s0 C α H locs la V hst.2)
theorem ev_tableIn {Z : am_Z} {M : am_M} {d pc : Nat} {ls : List (Nat × Value)} {rest : List Value} {g : am_G} {r : Option Value × am_G} {dflt lo hi : Int} {offs : Array Int} {len : Nat} {x : Int32} {off : Int} (tgt : Nat) (hd : decode M.2.1 pc = .ok (.tableswitch dflt lo hi offs, len)) (h1 : ¬ x.toInt < lo) (h2 : ¬ hi < x.toInt) (ho : offs[(x.toInt - lo).toNat]? = some off) (ht : (pc : Int) + off = (tgt : Int)) (kk : am_Ev Z M d tgt ls rest g r) : am_Ev Z M d pc ls (.int x :: rest) g r := by
  refine ⟨kk.1, ?_⟩
  intro p l e R s m args below meth c σ τ D dA A α0 n0 s0 C α H locs la V hst
  exact lv_tableIn C.1 C.2.1 hd h1 h2 ho ht (kk.2 p l e R s m args below meth c σ τ D dA A α0 n0 s0 C α H locs la V hst.2)
theorem ev_iret {Z : am_Z} {M : am_M} {d pc : Nat} {ls : List (Nat × Value)} {g : am_G} {x : Int32} (hd : decode M.2.1 pc = .ok (.ireturn, 1)) (hr : M.2.2.2 = some .int) : am_Ev Z M d pc ls [.int x] g (some (.int x), g) := by
  refine ⟨⟨Nat.le_refl _, Nat.le_refl _⟩, ?_⟩
  intro p l e R s m args below meth c σ τ D dA A α0 n0 s0 C α H locs la V hst
  exact W.iret C.1 C.2.1 (C.2.2.1.trans hr) (fun t ht _ => ⟨⟨α, rfl, V.1, V.2.2.2.1, ⟨trivial, trivial⟩, by rw [ht]; exact V.2.2.2.2.2.1, V.2.2.2.2.2.2.1⟩, V.2.2.2.2.2.2.2.1.F ht⟩) V.2.2.2.2.2.2.2.1.2.2 hd C.2.2.2.2.2.2.1
theorem ev_zret {Z : am_Z} {M : am_M} {d pc : Nat} {ls : List (Nat × Value)} {g : am_G} {x : Int32} {ty : FieldType} (hd : decode M.2.1 pc = .ok (.ireturn, 1)) (hr : M.2.2.2 = some ty) (hn : narrow ty (.int x) = .int x) : am_Ev Z M d pc ls [.int x] g (some (.int x), g) := by
  refine ⟨⟨Nat.le_refl _, Nat.le_refl _⟩, ?_⟩
  intro p l e R s m args below meth c σ τ D dA A α0 n0 s0 C α H locs la V hst
  exact W.zret C.1 C.2.1 (C.2.2.1.trans hr) hn (fun t ht _ => ⟨⟨α, rfl, V.1, V.2.2.2.1, ⟨trivial, trivial⟩, by rw [ht]; exact V.2.2.2.2.2.1, V.2.2.2.2.2.2.1⟩, V.2.2.2.2.2.2.2.1.F ht⟩) V.2.2.2.2.2.2.2.1.2.2 hd C.2.2.2.2.2.2.1
theorem ev_lret {Z : am_Z} {M : am_M} {d pc : Nat} {ls : List (Nat × Value)} {g : am_G} {x : Int64} (hd : decode M.2.1 pc = .ok (.lreturn, 1)) (hr : M.2.2.2 = some .long) : am_Ev Z M d pc ls [.long x] g (some (.long x), g) := by
  refine ⟨⟨Nat.le_refl _, Nat.le_refl _⟩, ?_⟩
  intro p l e R s m args below meth c σ τ D dA A α0 n0 s0 C α H locs la V hst
  exact W.lret C.1 C.2.1 (C.2.2.1.trans hr) (fun t ht _ => ⟨⟨α, rfl, V.1, V.2.2.2.1, ⟨trivial, trivial⟩, by rw [ht]; exact V.2.2.2.2.2.1, V.2.2.2.2.2.2.1⟩, V.2.2.2.2.2.2.2.1.F ht⟩) V.2.2.2.2.2.2.2.1.2.2 hd C.2.2.2.2.2.2.1
theorem ev_ret {Z : am_Z} {M : am_M} {d pc : Nat} {ls : List (Nat × Value)} {g : am_G}  (hd : decode M.2.1 pc = .ok (.return_, 1)) (hr : M.2.2.2 = none) : am_Ev Z M d pc ls [] g (none, g) := by
  refine ⟨⟨Nat.le_refl _, Nat.le_refl _⟩, ?_⟩
  intro p l e R s m args below meth c σ τ D dA A α0 n0 s0 C α H locs la V hst
  exact W.vret C.1 C.2.1 (C.2.2.1.trans hr) (fun t ht _ => ⟨⟨α, rfl, V.1, V.2.2.2.1, trivial, by rw [ht]; exact V.2.2.2.2.2.1, V.2.2.2.2.2.2.1⟩, V.2.2.2.2.2.2.2.1.F ht⟩) V.2.2.2.2.2.2.2.1.2.2 hd C.2.2.2.2.2.2.1
theorem ev_aret {Z : am_Z} {M : am_M} {d pc : Nat} {ls : List (Nat × Value)} {g : am_G} {x : Nat} {rt : FieldType} (hd : decode M.2.1 pc = .ok (.areturn, 1)) (hr : M.2.2.2 = some rt) (hrt : (∃ n, rt = .object n) ∨ ∃ t, rt = .array t) : am_Ev Z M d pc ls [.ref x] g (some (.ref x), g) := by
  refine ⟨⟨Nat.le_refl _, Nat.le_refl _⟩, ?_⟩
  intro p l e R s m args below meth c σ τ D dA A α0 n0 s0 C α H locs la V hst
  exact W.aret C.1 C.2.1 (C.2.2.1.trans hr) hrt (Or.inr ⟨_, rfl⟩) (fun t ht _ => ⟨⟨α, rfl, V.1, V.2.2.2.1, hst, by rw [ht]; exact V.2.2.2.2.2.1, V.2.2.2.2.2.2.1⟩, V.2.2.2.2.2.2.2.1.F ht⟩) V.2.2.2.2.2.2.2.1.2.2 hd C.2.2.2.2.2.2.1
theorem ev_aretN {Z : am_Z} {M : am_M} {d pc : Nat} {ls : List (Nat × Value)} {g : am_G} {rt : FieldType} (hd : decode M.2.1 pc = .ok (.areturn, 1)) (hr : M.2.2.2 = some rt) (hrt : (∃ n, rt = .object n) ∨ ∃ t, rt = .array t) : am_Ev Z M d pc ls [.null] g (some .null, g) := by
  refine ⟨⟨Nat.le_refl _, Nat.le_refl _⟩, ?_⟩
  intro p l e R s m args below meth c σ τ D dA A α0 n0 s0 C α H locs la V hst
  exact W.aret C.1 C.2.1 (C.2.2.1.trans hr) hrt (Or.inl rfl) (fun t ht _ => ⟨⟨α, rfl, V.1, V.2.2.2.1, hst, by rw [ht]; exact V.2.2.2.2.2.1, V.2.2.2.2.2.2.1⟩, V.2.2.2.2.2.2.2.1.F ht⟩) V.2.2.2.2.2.2.2.1.2.2 hd C.2.2.2.2.2.2.1

/-! ===== a new valley, stage by stage ===== -/
/-- what is told so far: place, offset, kind, length -/
def Stg (g : am_G) (n m s : Nat) (L : List (Nat × Nat × Nat × Nat)) (w : Bool) (K : am_G) : Prop :=
  am_n K = n + m ∧ am_s K = s ∧ am_S K n = (9, 20) ∧ (∀ q ∈ L, am_P K n q.1 = some (n + q.2.1) ∧ q.2.1 < m ∧ am_S K (n + q.2.1) = q.2.2) ∧ (7 ≤ m ∧ PkS K (n + 1)) ∧ (w = true → 16 ≤ m ∧ WdS K (n + 11)) ∧ ∀ a, a < n → am_S K a = am_S g a ∧ am_P K a = am_P g a ∧ am_I K a = am_I g a
theorem WdS.tra {g g' : am_G} {p : Nat} (h : WdS g p) (e : ∀ a, p ≤ a → a ≤ p + 4 → am_S g' a = am_S g a) (e' : am_P g' p = am_P g p) : WdS g' p := by
  obtain ⟨h0, h1, h2, h3, h4, s1, s2, s3, s4⟩ := h
  exact ⟨by rw [e _ (by omega) (by omega)]; exact h0, by rw [e']; exact h1, by rw [e']; exact h2, by rw [e']; exact h3, by rw [e']; exact h4, by rw [e _ (by omega) (by omega)]; exact s1, by rw [e _ (by omega) (by omega)]; exact s2, by rw [e _ (by omega) (by omega)]; exact s3, by rw [e _ (by omega) (by omega)]; exact s4⟩
/-- a stage behind a stage: i is told -/
theorem Stg.pr {g K K' : am_G} {n m m' s s' i kd l : Nat} {L : List (Nat × Nat × Nat × Nat)} {w : Bool} (h : Stg g n m s L w K) (hn : am_n K' = n + m') (hm : m < m') (hs : am_s K' = s') (hi : ∀ q ∈ L, q.1 ≠ i) (hS : ∀ a, a < n + m → am_S K' a = am_S K a) (hI : ∀ a, a < n → am_I K' a = am_I K a) (hP : ∀ a, a < n + m → a ≠ n → am_P K' a = am_P K a) (hPn : ∀ j, j ≠ i → am_P K' n j = am_P K n j) (hPi : am_P K' n i = some (n + m)) (hSm : am_S K' (n + m) = (kd, l)) : Stg g n m' s' ((i, m, kd, l) :: L) w K' := by
  obtain ⟨h1, h2, h3, h4, h5, h6, h7⟩ := h
  have hm7 := h5.1
  refine ⟨hn, hs, by rw [hS n (by omega)]; exact h3, fun q hq => ?_, ⟨by omega, h5.2.tra (fun a ha hb => hS a (by omega)) (hP _ (by omega) (by omega))⟩, fun hw => ?_, fun a ha => ?_⟩
  · rcases List.mem_cons.mp hq with rfl | hq
    · exact ⟨hPi, hm, hSm⟩
    · obtain ⟨z1, z2, z3⟩ := h4 q hq
      exact ⟨by rw [hPn _ (hi q hq)]; exact z1, by omega, by rw [hS _ (by omega)]; exact z3⟩
  · obtain ⟨z1, z2⟩ := h6 hw
    exact ⟨by omega, z2.tra (fun a ha hb => hS a (by omega)) (hP _ (by omega) (by omega))⟩
  · obtain ⟨z1, z2, z3⟩ := h7 a ha
    exact ⟨by rw [hS a (by omega)]; exact z1, by rw [hP a (by omega) (by omega)]; exact z2, by rw [hI a ha]; exact z3⟩
theorem Stg.step {g K : am_G} {n m s : Nat} {L : List (Nat × Nat × Nat × Nat)} {w : Bool} (h : Stg g n m s L w K) (i kd l : Nat) (hi : ∀ q ∈ L, q.1 ≠ i) : ∃ K', am_n K = n + m ∧ am_sp (am_new K kd l) n i (some (n + m)) = K' ∧ am_S (am_new K kd l) n = (9, 20) ∧ Stg g n (m + 1) (s + l) ((i, m, kd, l) :: L) w K' := by
  have hm := h.2.2.2.2.1.1
  obtain ⟨b1, b2, b3, b4, b5, b6, b7, b8, b9, b10, b11⟩ := newB (kd := kd) (i := i) (l := l) h.1 (by omega : n < n + m) h.2.2.1
  exact ⟨_, h.1, rfl, b10, h.pr b1 (by omega) (by rw [b2, h.2.1]) hi b5 (fun a ha => b9 a (by omega)) b6 b8 b7 b4⟩
theorem Stg.words {g K : am_G} {n s : Nat} {L : List (Nat × Nat × Nat × Nat)} (h : Stg g n 11 s L false K) (hn : 79 ≤ n) (hi : ∀ q ∈ L, q.1 ≠ 5) : ∃ W K', am_n K = n + 11 ∧ fX10_init zc_n (n + 11) (am_new K 10 5) = some ((), W) ∧ am_S W n = (9, 20) ∧ am_sp W n 5 (some (n + 11)) = K' ∧ Stg g n 16 (s + 69) ((5, 11, 10, 5) :: L) true K' := by
  have hK := h.1
  have aw : am_n (am_new K 10 5) = n + 11 + 1 := by rw [pn_new, hK]
  have Sw : am_S (am_new K 10 5) (n + 11) = (10, 5) := by rw [← hK]; exact pS_new K 10 5
  obtain ⟨W, qW, nW, sW, PW, oW⟩ := q10_init (g := am_new K 10 5) (n := n + 11) aw Sw (by omega)
  have oS : ∀ a, a < n + 11 → am_S W a = am_S K a := fun a ha => (oW a ha).1.trans (pS_newn (by omega))
  have oP : ∀ a, a < n + 11 → am_P W a = am_P K a := fun a ha => (oW a ha).2.1.trans (pP_newn (by omega))
  have oI : ∀ a, a < n + 11 → am_I W a = am_I K a := fun a ha => (oW a ha).2.2.trans (pI_newn (by omega))
  have PW1 : WdS (am_sp W n 5 (some (n + 11))) (n + 11) := PW.tra (fun a _ _ => by rw [pS_sp]) (pP_spn (by omega))
  have base := h.pr (K' := am_sp W n 5 (some (n + 11))) (m' := 16) (s' := s + 69) (i := 5) (kd := 10) (l := 5) (by rw [pn_sp, nW]) (by omega) (by rw [ps_sp, sW, ps_new, h.2.1]) hi (fun a ha => by rw [pS_sp]; exact oS a ha) (fun a ha => by rw [pI_sp]; exact oI a (by omega)) (fun a ha hne => by rw [pP_spn hne]; exact oP a ha) (fun j hj => by rw [pP_spk hj]; exact congrFun (oP n (by omega)) j) (pP_spe _ _ _ _) (by rw [pS_sp]; exact PW.1)
  obtain ⟨z1, z2, z3, z4, z5, -, z7⟩ := base
  exact ⟨W, _, hK, qW, (oS n (by omega)).trans h.2.2.1, rfl, z1, z2, z3, z4, z5, fun _ => ⟨by omega, PW1⟩, z7⟩
theorem Stg.start {g : am_G} {n : Nat} (hn : am_n g = n) (hn79 : 79 ≤ n) : ∃ A K', am_n (am_new g 9 20) = n + 1 ∧ fX2_init zc_n (n + 1) (am_new (am_new g 9 20) 2 8) = some ((), A) ∧ am_S A n = (9, 20) ∧ am_sp A n 0 (some (n + 1)) = K' ∧ Stg g n 7 (am_s g + 118) [(0, 1, 2, 8)] false K' := by
  have a0 : am_n (am_new g 9 20) = n + 1 := by rw [pn_new, hn]
  have S0 : am_S (am_new g 9 20) n = (9, 20) := by rw [← hn]; exact pS_new g 9 20
  obtain ⟨A, qA, nA, sA, PA, oA⟩ := q2_init (g := am_new g 9 20) (n := n + 1) a0 (by omega)
  have gA : am_S A n = (9, 20) := by rw [(oA n (by omega)).1]; exact S0
  refine ⟨A, _, a0, qA, gA, rfl, by rw [pn_sp, nA], by rw [ps_sp, sA, ps_new], by rw [pS_sp]; exact gA, fun q hq => ?_, ⟨by omega, PA.tra (fun _ _ _ => by rw [pS_sp]) (pP_spn (by omega))⟩, fun z => absurd z (by decide), fun a ha => ⟨?_, ?_, ?_⟩⟩
  · obtain rfl := List.mem_singleton.mp hq
    exact ⟨pP_spe _ _ _ _, by decide, by rw [pS_sp]; exact PA.1⟩
  · rw [pS_sp, (oA a (by omega)).1, pS_newn (by omega)]
  · rw [pP_spn (by omega), (oA a (by omega)).2.1, pP_newn (by omega)]
  · rw [pI_sp, (oA a (by omega)).2.2, pI_newn (by omega)]
theorem Stg.ims {g K : am_G} {n s : Nat} (h : Stg g n 24 s [(13, 23, 26, 6), (12, 22, 20, 10), (11, 21, 20, 10), (10, 20, 20, 10), (9, 19, 20, 6), (8, 18, 20, 6), (7, 17, 20, 6), (6, 16, 20, 5), (5, 11, 10, 5), (4, 10, 20, 24), (3, 9, 20, 6), (2, 8, 20, 6), (1, 7, 20, 6), (0, 1, 2, 8)] true K) : ImS K n := by
  obtain ⟨h1, h2, h3, h4, h5, h6, h7⟩ := h
  obtain ⟨w0, w1, w2, w3, w4, w5, w6, w7, w8⟩ := (h6 rfl).2
  have q0 := h4 (0, 1, 2, 8) (by decide)
  have q1 := h4 (1, 7, 20, 6) (by decide)
  have q2 := h4 (2, 8, 20, 6) (by decide)
  have q3 := h4 (3, 9, 20, 6) (by decide)
  have q4 := h4 (4, 10, 20, 24) (by decide)
  have q5 := h4 (5, 11, 10, 5) (by decide)
  have q6 := h4 (6, 16, 20, 5) (by decide)
  have q7 := h4 (7, 17, 20, 6) (by decide)
  have q8 := h4 (8, 18, 20, 6) (by decide)
  have q9 := h4 (9, 19, 20, 6) (by decide)
  have q10 := h4 (10, 20, 20, 10) (by decide)
  have q11 := h4 (11, 21, 20, 10) (by decide)
  have q12 := h4 (12, 22, 20, 10) (by decide)
  have q13 := h4 (13, 23, 26, 6) (by decide)
  refine ⟨h3, h5.2, q1.2.2, q2.2.2, q3.2.2, q4.2.2, q5.2.2, fun c hc => ?_, q6.2.2, fun c hc => ?_, q13.2.2, q0.1, q1.1, q2.1, q3.1, q4.1, q5.1, q6.1, fun c hc => ?_, q13.1⟩
  · rcases (show c = 0 ∨ c = 1 ∨ c = 2 ∨ c = 3 by omega) with rfl | rfl | rfl | rfl
    · exact ⟨w1, w5⟩
    · exact ⟨w2, w6⟩
    · exact ⟨w3, w7⟩
    · exact ⟨w4, w8⟩
  · rcases (show c = 0 ∨ c = 1 ∨ c = 2 by omega) with rfl | rfl | rfl
    · exact ⟨q7.2.2, q10.2.2⟩
    · exact ⟨q8.2.2, q11.2.2⟩
    · exact ⟨q9.2.2, q12.2.2⟩
  · rcases (show c = 0 ∨ c = 1 ∨ c = 2 by omega) with rfl | rfl | rfl
    · exact ⟨q7.1, q10.1⟩
    · exact ⟨q8.1, q11.1⟩
    · exact ⟨q9.1, q12.1⟩
set_option maxHeartbeats 4000000 in
theorem q9_init {g : am_G} {n : Nat} (hn : am_n g = n) (hn79 : 79 ≤ n) : ∃ r, fX9_init zc_n n (am_new g 9 20) = some ((), r) ∧ am_n r = n + 24 ∧ am_s r = am_s g + 288 ∧ ImS r n ∧ ∀ a, a < n → am_S r a = am_S g a ∧ am_P r a = am_P g a ∧ am_I r a = am_I g a := by
  have d1 : zc_n ≤ n := hn79
  unfold fX9_init
  obtain ⟨A, k1, a0, qA, gA, e1, h⟩ := Stg.start hn hn79
  rw [pu_let, a0, pu_let, qA, pu_bd, pu_gd (decide_eq_true gA), pu_gd (decide_eq_true d1), pu_let, e1]
  clear a0 qA gA e1
  obtain ⟨k, a0, e1, gW, h⟩ := h.step 1 20 6 (by decide)
  rw [pu_let, a0, pu_let, pu_gd (decide_eq_true gW), pu_gd (decide_eq_true d1), pu_let, e1]
  clear a0 gW e1
  obtain ⟨k, a0, e1, gW, h⟩ := h.step 2 20 6 (by decide)
  rw [pu_let, a0, pu_let, pu_gd (decide_eq_true gW), pu_gd (decide_eq_true d1), pu_let, e1]
  clear a0 gW e1
  obtain ⟨k, a0, e1, gW, h⟩ := h.step 3 20 6 (by decide)
  rw [pu_let, a0, pu_let, pu_gd (decide_eq_true gW), pu_gd (decide_eq_true d1), pu_let, e1]
  clear a0 gW e1
  obtain ⟨k, a0, e1, gW, h⟩ := h.step 4 20 24 (by decide)
  rw [pu_let, a0, pu_let, pu_gd (decide_eq_true gW), pu_gd (decide_eq_true d1), pu_let, e1]
  clear a0 gW e1
  obtain ⟨W, k, a0, qW, gW, e1, h⟩ := h.words hn79 (by decide)
  rw [pu_let, a0, pu_let, qW, pu_bd, pu_gd (decide_eq_true gW), pu_gd (decide_eq_true d1), pu_let, e1]
  clear a0 qW gW e1
  obtain ⟨k, a0, e1, gW, h⟩ := h.step 6 20 5 (by decide)
  rw [pu_let, a0, pu_let, pu_gd (decide_eq_true gW), pu_gd (decide_eq_true d1), pu_let, e1]
  clear a0 gW e1
  obtain ⟨k, a0, e1, gW, h⟩ := h.step 7 20 6 (by decide)
  rw [pu_let, a0, pu_let, pu_gd (decide_eq_true gW), pu_gd (decide_eq_true d1), pu_let, e1]
  clear a0 gW e1
  obtain ⟨k, a0, e1, gW, h⟩ := h.step 8 20 6 (by decide)
  rw [pu_let, a0, pu_let, pu_gd (decide_eq_true gW), pu_gd (decide_eq_true d1), pu_let, e1]
  clear a0 gW e1
  obtain ⟨k, a0, e1, gW, h⟩ := h.step 9 20 6 (by decide)
  rw [pu_let, a0, pu_let, pu_gd (decide_eq_true gW), pu_gd (decide_eq_true d1), pu_let, e1]
  clear a0 gW e1
  obtain ⟨k, a0, e1, gW, h⟩ := h.step 10 20 10 (by decide)
  rw [pu_let, a0, pu_let, pu_gd (decide_eq_true gW), pu_gd (decide_eq_true d1), pu_let, e1]
  clear a0 gW e1
  obtain ⟨k, a0, e1, gW, h⟩ := h.step 11 20 10 (by decide)
  rw [pu_let, a0, pu_let, pu_gd (decide_eq_true gW), pu_gd (decide_eq_true d1), pu_let, e1]
  clear a0 gW e1
  obtain ⟨k, a0, e1, gW, h⟩ := h.step 12 20 10 (by decide)
  rw [pu_let, a0, pu_let, pu_gd (decide_eq_true gW), pu_gd (decide_eq_true d1), pu_let, e1]
  clear a0 gW e1
  obtain ⟨k, a0, e1, gW, h⟩ := h.step 13 26 6 (by decide)
  rw [pu_let, a0, pu_let, pu_gd (decide_eq_true gW), pu_gd (decide_eq_true d1), pu_let, e1]
  clear a0 gW e1
  have hI := Stg.ims h
  obtain ⟨h1, h2, h3, -, -, -, h7⟩ := h
  obtain ⟨c1, c2, c3, c4, c5, c6, c7, c8, c9, c10, c11, p0, p1, p2, p3, p4, p5, -⟩ := id hI
  rw [pu_gd (decide_eq_true h3), pu_let, pu_gd (decide_eq_true (show am_S (am_si k n 18 (-1)) n = (9, 20) from h3)), show am_P (am_si k n 18 (-1)) n 1 = some (n + 7) from p1, pu_ocs, qJ_fill (len := 6) (by decide) 500 (show am_S (am_si k n 18 (-1)) (n + 7) = (20, 6) from c3), pu_bd]
  generalize hk1 : am_sr (am_si k n 18 (-1)) (n + 7) _ = k1
  have e1 : k1.2 = k.2 := by rw [← hk1]; rfl
  have i1 : ∀ a, a < n → am_I k1 a = am_I k a := fun a ha => by rw [← hk1, pI_sr_ne _ _ (by omega), pI_si_ne _ _ _ (by omega)]
  have eS1 : am_S k1 = am_S k := congrArg (fun z => z.2.2.1) e1
  have eP1 : am_P k1 = am_P k := congrArg (fun z => z.2.1) e1
  rw [pu_gd (decide_eq_true (show am_S k1 n = (9, 20) by rw [eS1]; exact h3)), show am_P k1 n 2 = some (n + 8) by rw [eP1]; exact p2, pu_ocs, qJ_fill (len := 6) (by decide) (-1) (show am_S k1 (n + 8) = (20, 6) by rw [eS1]; exact c4), pu_bd]
  generalize hk2 : am_sr k1 (n + 8) _ = k2
  have e2 : k2.2 = k.2 := by rw [← hk2]; exact e1
  have i2 : ∀ a, a < n → am_I k2 a = am_I k a := fun a ha => by rw [← hk2, pI_sr_ne _ _ (by omega)]; exact i1 a ha
  have eS2 : am_S k2 = am_S k := congrArg (fun z => z.2.2.1) e2
  have eP2 : am_P k2 = am_P k := congrArg (fun z => z.2.1) e2
  rw [pu_gd (decide_eq_true (show am_S k2 n = (9, 20) by rw [eS2]; exact h3)), show am_P k2 n 4 = some (n + 10) by rw [eP2]; exact p4, pu_ocs, qJ_fill (len := 24) (by decide) 1 (show am_S k2 (n + 10) = (20, 24) by rw [eS2]; exact c6), pu_bd]
  generalize hk3 : am_sr k2 (n + 10) _ = k3
  have e3 : k3.2 = k.2 := by rw [← hk3]; exact e2
  have i3 : ∀ a, a < n → am_I k3 a = am_I k a := fun a ha => by rw [← hk3, pI_sr_ne _ _ (by omega)]; exact i2 a ha
  have eS3 : am_S k3 = am_S k := congrArg (fun z => z.2.2.1) e3
  have eP3 : am_P k3 = am_P k := congrArg (fun z => z.2.1) e3
  have en3 : am_n k3 = am_n k := congrArg (fun z => z.2.2.2.1) e3
  have es3 : am_s k3 = am_s k := congrArg (fun z => z.2.2.2.2) e3
  exact ⟨k3, rfl, by rw [en3]; exact h1, by rw [es3]; exact h2, hI.eq eP3 eS3, fun a ha => ⟨by rw [eS3]; exact (h7 a ha).1, by rw [eP3]; exact (h7 a ha).2.1, by rw [i3 a ha]; exact (h7 a ha).2.2⟩⟩

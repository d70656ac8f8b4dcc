/-! ===== signs ===== -/
def smf (φ : Nat → Nat) (w : Nat → Nat) : Nat → Nat
  | 0 => 0
  | n + 1 => smf φ w n + φ (w n)
theorem smf_out {φ w : Nat → Nat} {k y : Nat} : ∀ n, n ≤ k → smf φ (am_up w k y) n = smf φ w n
  | 0, _ => rfl
  | n + 1, h => by rw [smf, smf, smf_out n (by omega), am_up_ne (by omega)]
theorem smf_up {φ w : Nat → Nat} {k y : Nat} : ∀ n, k < n → smf φ (am_up w k y) n + φ (w k) = smf φ w n + φ y
  | 0, h => absurd h (by omega)
  | n + 1, h => by
    rw [smf, smf]
    by_cases e : k = n
    · subst e
      rw [smf_out k (Nat.le_refl _), am_up_eq]
      omega
    · rw [am_up_ne (by omega)]
      have := smf_up (φ := φ) (w := w) (y := y) n (show k < n by omega)
      omega
theorem smf_le {w : Nat → Nat} {j : Nat} : ∀ n, j < n → w j ≤ smf (fun x => x) w n
  | 0, h => absurd h (by omega)
  | n + 1, h => by
    rw [smf]
    by_cases e : j = n
    · subst e; omega
    · have := smf_le (w := w) n (show j < n by omega)
      omega
def ind (x y : Nat) : Nat := if y = x then 1 else 0
theorem smf_ex {w : Nat → Nat} {x : Nat} : ∀ n, 0 < smf (ind x) w n → ∃ j, j < n ∧ w j = x
  | 0, h => absurd h (by rw [smf]; omega)
  | n + 1, h => by
    by_cases e : w n = x
    · exact ⟨n, by omega, e⟩
    · rw [smf, ind, if_neg e] at h
      obtain ⟨j, h1, h2⟩ := smf_ex n h
      exact ⟨j, by omega, h2⟩
theorem smf_ex' {w : Nat → Nat} {x j : Nat} : ∀ n, j < n → w j = x → 0 < smf (ind x) w n
  | 0, h, _ => absurd h (by omega)
  | n + 1, h, e => by
    rw [smf]
    by_cases z : j = n
    · subst z
      rw [ind, if_pos e]
      omega
    · have := smf_ex' (w := w) n (show j < n by omega) e
      omega
/-- two rows of the same numbers have the same least one, the same least one of the rest -/
theorem min1 {w w' : Nat → Nat} {n p p' : Nat} (h : ∀ φ, smf φ w n = smf φ w' n) (hp : p < n) (hp' : ∀ j, j < n → w' p' ≤ w' j) : w' p' ≤ w p := by
  have h1 := smf_ex' (w := w) (x := w p) n hp rfl
  rw [h] at h1
  obtain ⟨j, h2, h3⟩ := smf_ex n h1
  rw [← h3]
  exact hp' j h2
theorem min2 {w w' : Nat → Nat} {n p q p' q' : Nat} (h : ∀ φ, smf φ w n = smf φ w' n) (hp : p < n) (hq : q < n) (hpq : q ≠ p) (hp' : p' < n) (e : w p = w' p') (hq' : ∀ j, j < n → j ≠ p' → w' q' ≤ w' j) : w' q' ≤ w q := by
  have h1 := smf_up (φ := ind (w q)) (w := w) (y := w q + 1) n hp
  have h2 := smf_up (φ := ind (w q)) (w := w') (y := w q + 1) n hp'
  have h3 := smf_ex' (w := am_up w p (w q + 1)) (x := w q) n hq (by rw [am_up_ne hpq])
  have h4 := h (ind (w q))
  rw [e] at h1
  obtain ⟨j, h5, h6⟩ := smf_ex (w := am_up w' p' (w q + 1)) (x := w q) n (by omega)
  by_cases hj : j = p'
  · subst hj
    rw [am_up_eq] at h6
    omega
  · rw [am_up_ne hj] at h6
    rw [← h6]
    exact hq' j h5 hj
def sw (w : Nat → Nat) (i p : Nat) : Nat → Nat := fun j => w (if j = p then i else if j = i then p else j)
theorem sw_up (w : Nat → Nat) (i p : Nat) : sw w i p = am_up (am_up w i (w p)) p (w i) := by
  funext j
  unfold sw am_up
  by_cases h1 : j = p
  · rw [if_pos h1, if_pos h1]
  · rw [if_neg h1, if_neg h1]
    by_cases h2 : j = i
    · rw [if_pos h2, if_pos h2]
    · rw [if_neg h2, if_neg h2]
theorem smf_sw {φ w : Nat → Nat} {i p n : Nat} (hi : i < n) (hp : p < n) : smf φ (sw w i p) n = smf φ w n := by
  rw [sw_up]
  have h1 := smf_up (φ := φ) (w := w) (y := w p) n hi
  have h2 := smf_up (φ := φ) (w := am_up w i (w p)) (y := w i) n hp
  by_cases e : p = i
  · subst e
    rw [am_up_eq] at h2
    omega
  · rw [am_up_ne e] at h2
    omega
/-- the first n numbers of a row of the heap -/
def hld (a n : Nat) (w : Nat → Nat) (g : am_G) : Prop := ∀ i, i < n → am_I g a i = nI (w i)
theorem hld.up {a n k y : Nat} {w : Nat → Nat} {g : am_G} (h : hld a n w g) : hld a n (am_up w k y) (am_si g a k (nI y)) := fun i hi => by
  by_cases e : i = k
  · subst e; rw [pe_ieq, am_up_eq]
  · rw [pe_ik e, am_up_ne e]; exact h i hi
theorem hld.sw {a n i p : Nat} {w : Nat → Nat} {g : am_G} (h : hld a n w g) : hld a n (sw w i p) (am_si (am_si g a i (nI (w p))) a p (nI (w i))) := by
  rw [sw_up]
  exact h.up.up
theorem lightL {m M : Nat} (hm : m < M) (hM : M ≤ 16) : ∀ (d i f : Nat) (g : am_G) (w : Nat → Nat), i + d = m → d < f → hld 78 M w g → smf (fun x => x) w M ≤ 1584 → (∀ j, j < i → w m ≤ w j) → ∃ g' w', fX11_lightestLast_L2 (nI (m + 1)) f (nI i) g = some ((), g') ∧ FcS g g' ∧ hld 78 M w' g' ∧ (∀ j, m < j → w' j = w j) ∧ (∀ φ, smf φ w' (m + 1) = smf φ w (m + 1)) ∧ (∀ φ, smf φ w' M = smf φ w M) ∧ ∀ j, j ≤ m → w' m ≤ w' j
  | 0, i, f, g, w, hd, hf, hh, hs, hw => by
    obtain ⟨f, rfl⟩ : ∃ m, f = m + 1 := ⟨f - 1, by omega⟩
    obtain rfl : i = m := by omega
    refine ⟨g, w, ?_, FcS.rf g, hh, fun _ _ => rfl, fun _ => rfl, fun _ => rfl, fun j hj => ?_⟩
    · rw [fX11_lightestLast_L2]
      simp (disch := first | omega | assumption | decide) only [↓pv_let, ↓pv_jn, ↓reduceIte, pv_bd, ↓pv_ocs, ↓pv_ocn, pv_gdt, pe_gd, pe_clamp, pt_eq, pf_eq, pt_le, pf_le, pt_lt, pf_lt, nI_add, nn_mul, pe_sub, pb_0, pb_1, pb_z, pe_ieq, pe_ine, pe_ik, pP_si, pS_si, pn_si, ps_si, pL_si, decide_true, ofNat_nI, pe_srI, pe_srN, pe_srS, pe_srP, not_true_eq_false, not_false_eq_true, true_and, and_true, and_self, false_and, and_false, nI_m1, nI_ms, Nat.add_sub_cancel, pl_0, pl_1, pl_2, pl_3, pl_4, pl_5, pl_6, pl_7, pl_8, pl_9, pl_10, pl_11, pl_12, pl_13, pl_14, pl_15, pl_16, pl_17, pl_18, pl_19, pl_20, pl_21, pl_22, pl_23, pl_24, pl_25, pl_26, pl_27, pl_28, pl_29, pl_30, pl_31, pl_32, pl_34, pl_36, pl_37, pl_40, pl_41, pl_42, pl_43, pl_45, pl_47, pl_48, pl_50, pl_57, pl_59, pl_60, pl_61, pl_62, pl_64, pl_70, pl_91, pl_93, pl_97, pl_98, pl_99, pl_100, pl_106, pl_122, pl_128, pl_136, pl_142, pl_165, pl_168, pl_170, pl_171, pl_173, pl_175, pl_187, pl_188, pl_189, pl_190, pl_206, pl_211, pl_219, pl_229, pl_255, pl_260, pl_400, pl_500, pl_512, pl_900, pl_999, pl_1000, pl_1001, pl_1005, pl_1020, pl_1023, pl_1024, pl_1103, pl_2000, pl_2040, pl_2176, pl_5660, pl_9999, pl_12345, pl_1000000, pl_1000003, pl_100000000, pl_1000000000, pz_0, pz_1, pz_t]
    · by_cases e : j = i
      · subst e; exact Nat.le_refl _
      · exact hw j (by omega)
  | d + 1, i, f, g, w, hd, hf, hh, hs, hw => by
    obtain ⟨f, rfl⟩ : ∃ m, f = m + 1 := ⟨f - 1, by omega⟩
    have ei := hh i (by omega)
    have em := hh m (by omega)
    have bi : w i ≤ 1584 := Nat.le_trans (smf_le M (by omega)) hs
    have bm : w m ≤ 1584 := Nat.le_trans (smf_le M (by omega)) hs
    by_cases hc : w m ≤ w i
    · obtain ⟨g', w', h1, h2⟩ := lightL hm hM d (i + 1) f g w (by omega) (by omega) hh hs (fun j hj => by
        by_cases e : j = i
        · subst e; exact hc
        · exact hw j (by omega))
      refine ⟨g', w', ?_, h2⟩
      rw [← h1, fX11_lightestLast_L2]
      simp (disch := first | omega | assumption | decide) only [↓pv_let, ↓pv_jn, ↓reduceIte, pv_bd, ↓pv_ocs, ↓pv_ocn, pv_gdt, pe_gd, pe_clamp, pt_eq, pf_eq, pt_le, pf_le, pt_lt, pf_lt, nI_add, nn_mul, pe_sub, pb_0, pb_1, pb_z, pe_ieq, pe_ine, pe_ik, pP_si, pS_si, pn_si, ps_si, pL_si, decide_true, ofNat_nI, pe_srI, pe_srN, pe_srS, pe_srP, not_true_eq_false, not_false_eq_true, true_and, and_true, and_self, false_and, and_false, nI_m1, nI_ms, Nat.add_sub_cancel, pl_0, pl_1, pl_2, pl_3, pl_4, pl_5, pl_6, pl_7, pl_8, pl_9, pl_10, pl_11, pl_12, pl_13, pl_14, pl_15, pl_16, pl_17, pl_18, pl_19, pl_20, pl_21, pl_22, pl_23, pl_24, pl_25, pl_26, pl_27, pl_28, pl_29, pl_30, pl_31, pl_32, pl_34, pl_36, pl_37, pl_40, pl_41, pl_42, pl_43, pl_45, pl_47, pl_48, pl_50, pl_57, pl_59, pl_60, pl_61, pl_62, pl_64, pl_70, pl_91, pl_93, pl_97, pl_98, pl_99, pl_100, pl_106, pl_122, pl_128, pl_136, pl_142, pl_165, pl_168, pl_170, pl_171, pl_173, pl_175, pl_187, pl_188, pl_189, pl_190, pl_206, pl_211, pl_219, pl_229, pl_255, pl_260, pl_400, pl_500, pl_512, pl_900, pl_999, pl_1000, pl_1001, pl_1005, pl_1020, pl_1023, pl_1024, pl_1103, pl_2000, pl_2040, pl_2176, pl_5660, pl_9999, pl_12345, pl_1000000, pl_1000003, pl_100000000, pl_1000000000, pz_0, pz_1, pz_t, ei, em]
    · obtain ⟨g', w', h1, h2, h3, h4, h5, h6, h7⟩ := lightL hm hM d (i + 1) f _ (sw w i m) (by omega) (by omega) (hh.sw (i := i) (p := m)) (by rw [smf_sw (by omega) (by omega)]; exact hs) (fun j hj => by
        unfold sw
        rw [if_pos rfl, if_neg (by omega)]
        by_cases e : j = i
        · rw [if_pos e]; omega
        · rw [if_neg e]; have := hw j (by omega); omega)
      refine ⟨g', w', ?_, (((FcS.rf g).si (by omega) _ _).si (by omega) _ _).tr h2, h3, fun j hj => ?_, fun φ => ?_, fun φ => ?_, h7⟩
      · rw [← h1, fX11_lightestLast_L2]
        simp (disch := first | omega | assumption | decide) only [↓pv_let, ↓pv_jn, ↓reduceIte, pv_bd, ↓pv_ocs, ↓pv_ocn, pv_gdt, pe_gd, pe_clamp, pt_eq, pf_eq, pt_le, pf_le, pt_lt, pf_lt, nI_add, nn_mul, pe_sub, pb_0, pb_1, pb_z, pe_ieq, pe_ine, pe_ik, pP_si, pS_si, pn_si, ps_si, pL_si, decide_true, ofNat_nI, pe_srI, pe_srN, pe_srS, pe_srP, not_true_eq_false, not_false_eq_true, true_and, and_true, and_self, false_and, and_false, nI_m1, nI_ms, Nat.add_sub_cancel, pl_0, pl_1, pl_2, pl_3, pl_4, pl_5, pl_6, pl_7, pl_8, pl_9, pl_10, pl_11, pl_12, pl_13, pl_14, pl_15, pl_16, pl_17, pl_18, pl_19, pl_20, pl_21, pl_22, pl_23, pl_24, pl_25, pl_26, pl_27, pl_28, pl_29, pl_30, pl_31, pl_32, pl_34, pl_36, pl_37, pl_40, pl_41, pl_42, pl_43, pl_45, pl_47, pl_48, pl_50, pl_57, pl_59, pl_60, pl_61, pl_62, pl_64, pl_70, pl_91, pl_93, pl_97, pl_98, pl_99, pl_100, pl_106, pl_122, pl_128, pl_136, pl_142, pl_165, pl_168, pl_170, pl_171, pl_173, pl_175, pl_187, pl_188, pl_189, pl_190, pl_206, pl_211, pl_219, pl_229, pl_255, pl_260, pl_400, pl_500, pl_512, pl_900, pl_999, pl_1000, pl_1001, pl_1005, pl_1020, pl_1023, pl_1024, pl_1103, pl_2000, pl_2040, pl_2176, pl_5660, pl_9999, pl_12345, pl_1000000, pl_1000003, pl_100000000, pl_1000000000, pz_0, pz_1, pz_t, ei, em]
      · rw [h4 j hj]
        unfold sw
        rw [if_neg (by omega), if_neg (by omega)]
      · rw [h5, smf_sw (by omega) (by omega)]
      · rw [h6, smf_sw (by omega) (by omega)]
theorem argL {n i : Nat} (hn : n ≤ 16) {w : Nat → Nat} {g : am_G} (hh : hld 32 n w g) (hs : smf (fun x => x) w n ≤ 1584) (x30 x33 : Int32) : ∀ (d j f t0 : Nat), j + d = n → d < f → t0 < n → i ≤ t0 → i ≤ j → (∀ jj, i ≤ jj → jj < j → w t0 ≤ w jj) → ∃ t, t < n ∧ i ≤ t ∧ (∀ jj, i ≤ jj → jj < n → w t ≤ w jj) ∧ ∀ k, fX12_signs_L83 k (nI n) x30 x33 f (nI t0) (nI j) g = k (nI t) g
  | 0, j, f, t0, hd, hf, h0, hi, hij, hw => by
    obtain ⟨f, rfl⟩ : ∃ m, f = m + 1 := ⟨f - 1, by omega⟩
    obtain rfl : j = n := by omega
    refine ⟨t0, h0, hi, hw, fun k => ?_⟩
    rw [fX12_signs_L83]
    simp (disch := first | omega | assumption | decide) only [↓pv_let, ↓pv_jn, ↓reduceIte, pv_bd, ↓pv_ocs, ↓pv_ocn, pv_gdt, pe_gd, pe_clamp, pt_eq, pf_eq, pt_le, pf_le, pt_lt, pf_lt, nI_add, nn_mul, pe_sub, pb_0, pb_1, pb_z, pe_ieq, pe_ine, pe_ik, pP_si, pS_si, pn_si, ps_si, pL_si, decide_true, ofNat_nI, pe_srI, pe_srN, pe_srS, pe_srP, not_true_eq_false, not_false_eq_true, true_and, and_true, and_self, false_and, and_false, nI_m1, nI_ms, Nat.add_sub_cancel, pl_0, pl_1, pl_2, pl_3, pl_4, pl_5, pl_6, pl_7, pl_8, pl_9, pl_10, pl_11, pl_12, pl_13, pl_14, pl_15, pl_16, pl_17, pl_18, pl_19, pl_20, pl_21, pl_22, pl_23, pl_24, pl_25, pl_26, pl_27, pl_28, pl_29, pl_30, pl_31, pl_32, pl_34, pl_36, pl_37, pl_40, pl_41, pl_42, pl_43, pl_45, pl_47, pl_48, pl_50, pl_57, pl_59, pl_60, pl_61, pl_62, pl_64, pl_70, pl_91, pl_93, pl_97, pl_98, pl_99, pl_100, pl_106, pl_122, pl_128, pl_136, pl_142, pl_165, pl_168, pl_170, pl_171, pl_173, pl_175, pl_187, pl_188, pl_189, pl_190, pl_206, pl_211, pl_219, pl_229, pl_255, pl_260, pl_400, pl_500, pl_512, pl_900, pl_999, pl_1000, pl_1001, pl_1005, pl_1020, pl_1023, pl_1024, pl_1103, pl_2000, pl_2040, pl_2176, pl_5660, pl_9999, pl_12345, pl_1000000, pl_1000003, pl_100000000, pl_1000000000, pz_0, pz_1, pz_t]
  | d + 1, j, f, t0, hd, hf, h0, hi, hij, hw => by
    obtain ⟨f, rfl⟩ : ∃ m, f = m + 1 := ⟨f - 1, by omega⟩
    have e0 := hh t0 h0
    have ej := hh j (by omega)
    have b0 : w t0 ≤ 1584 := Nat.le_trans (smf_le n h0) hs
    have bj : w j ≤ 1584 := Nat.le_trans (smf_le n (by omega)) hs
    by_cases hc : w t0 ≤ w j
    · obtain ⟨t, h1, h2, h3, h4⟩ := argL hn hh hs x30 x33 d (j + 1) f t0 (by omega) (by omega) h0 hi (by omega) (fun jj hj hjj => by
        by_cases e : jj = j
        · subst e; exact hc
        · exact hw jj hj (by omega))
      refine ⟨t, h1, h2, h3, fun k => ?_⟩
      rw [← h4 k, fX12_signs_L83]
      simp (disch := first | omega | assumption | decide) only [↓pv_let, ↓pv_jn, ↓reduceIte, pv_bd, ↓pv_ocs, ↓pv_ocn, pv_gdt, pe_gd, pe_clamp, pt_eq, pf_eq, pt_le, pf_le, pt_lt, pf_lt, nI_add, nn_mul, pe_sub, pb_0, pb_1, pb_z, pe_ieq, pe_ine, pe_ik, pP_si, pS_si, pn_si, ps_si, pL_si, decide_true, ofNat_nI, pe_srI, pe_srN, pe_srS, pe_srP, not_true_eq_false, not_false_eq_true, true_and, and_true, and_self, false_and, and_false, nI_m1, nI_ms, Nat.add_sub_cancel, pl_0, pl_1, pl_2, pl_3, pl_4, pl_5, pl_6, pl_7, pl_8, pl_9, pl_10, pl_11, pl_12, pl_13, pl_14, pl_15, pl_16, pl_17, pl_18, pl_19, pl_20, pl_21, pl_22, pl_23, pl_24, pl_25, pl_26, pl_27, pl_28, pl_29, pl_30, pl_31, pl_32, pl_34, pl_36, pl_37, pl_40, pl_41, pl_42, pl_43, pl_45, pl_47, pl_48, pl_50, pl_57, pl_59, pl_60, pl_61, pl_62, pl_64, pl_70, pl_91, pl_93, pl_97, pl_98, pl_99, pl_100, pl_106, pl_122, pl_128, pl_136, pl_142, pl_165, pl_168, pl_170, pl_171, pl_173, pl_175, pl_187, pl_188, pl_189, pl_190, pl_206, pl_211, pl_219, pl_229, pl_255, pl_260, pl_400, pl_500, pl_512, pl_900, pl_999, pl_1000, pl_1001, pl_1005, pl_1020, pl_1023, pl_1024, pl_1103, pl_2000, pl_2040, pl_2176, pl_5660, pl_9999, pl_12345, pl_1000000, pl_1000003, pl_100000000, pl_1000000000, pz_0, pz_1, pz_t, e0, ej]
    · obtain ⟨t, h1, h2, h3, h4⟩ := argL hn hh hs x30 x33 d (j + 1) f j (by omega) (by omega) (by omega) hij (by omega) (fun jj hj hjj => by
        by_cases e : jj = j
        · subst e; exact Nat.le_refl _
        · have := hw jj hj (by omega); omega)
      refine ⟨t, h1, h2, h3, fun k => ?_⟩
      rw [← h4 k, fX12_signs_L83]
      simp (disch := first | omega | assumption | decide) only [↓pv_let, ↓pv_jn, ↓reduceIte, pv_bd, ↓pv_ocs, ↓pv_ocn, pv_gdt, pe_gd, pe_clamp, pt_eq, pf_eq, pt_le, pf_le, pt_lt, pf_lt, nI_add, nn_mul, pe_sub, pb_0, pb_1, pb_z, pe_ieq, pe_ine, pe_ik, pP_si, pS_si, pn_si, ps_si, pL_si, decide_true, ofNat_nI, pe_srI, pe_srN, pe_srS, pe_srP, not_true_eq_false, not_false_eq_true, true_and, and_true, and_self, false_and, and_false, nI_m1, nI_ms, Nat.add_sub_cancel, pl_0, pl_1, pl_2, pl_3, pl_4, pl_5, pl_6, pl_7, pl_8, pl_9, pl_10, pl_11, pl_12, pl_13, pl_14, pl_15, pl_16, pl_17, pl_18, pl_19, pl_20, pl_21, pl_22, pl_23, pl_24, pl_25, pl_26, pl_27, pl_28, pl_29, pl_30, pl_31, pl_32, pl_34, pl_36, pl_37, pl_40, pl_41, pl_42, pl_43, pl_45, pl_47, pl_48, pl_50, pl_57, pl_59, pl_60, pl_61, pl_62, pl_64, pl_70, pl_91, pl_93, pl_97, pl_98, pl_99, pl_100, pl_106, pl_122, pl_128, pl_136, pl_142, pl_165, pl_168, pl_170, pl_171, pl_173, pl_175, pl_187, pl_188, pl_189, pl_190, pl_206, pl_211, pl_219, pl_229, pl_255, pl_260, pl_400, pl_500, pl_512, pl_900, pl_999, pl_1000, pl_1001, pl_1005, pl_1020, pl_1023, pl_1024, pl_1103, pl_2000, pl_2040, pl_2176, pl_5660, pl_9999, pl_12345, pl_1000000, pl_1000003, pl_100000000, pl_1000000000, pz_0, pz_1, pz_t, e0, ej]
/-- one turn of the second loop: the least of those from i on comes to i -/
theorem swapR {n i f : Nat} (hn : n ≤ 16) (hi : i < n) (hi2 : i < 2) {w : Nat → Nat} {g : am_G} (hh : hld 32 n w g) (hs : smf (fun x => x) w n ≤ 1584) (x30 : Int32) : ∃ t, t < n ∧ i ≤ t ∧ (∀ jj, i ≤ jj → jj < n → w t ≤ w jj) ∧ ∀ k, fX12_signs_L72 k (nI n) x30 (f + 1) (nI i) g = fX12_signs_L72 k (nI n) x30 f (nI (i + 1)) (am_si (am_si g 32 i (nI (w t))) 32 t (nI (w i))) := by
  obtain ⟨t, h1, h2, h3, h4⟩ := argL hn hh hs x30 (nI i) (n - i) i am_fu i (by omega) (by have : am_fu = 1048576 := rfl; omega) hi (Nat.le_refl _) (Nat.le_refl _) (fun jj h1 h2 => absurd h1 (by omega))
  refine ⟨t, h1, h2, h3, fun k => ?_⟩
  have ei := hh i hi
  have et := hh t h1
  rw [fX12_signs_L72]
  simp (disch := first | omega | assumption | decide) only [↓pv_let, ↓pv_jn, ↓reduceIte, pv_bd, ↓pv_ocs, ↓pv_ocn, pv_gdt, pe_gd, pe_clamp, pt_eq, pf_eq, pt_le, pf_le, pt_lt, pf_lt, nI_add, nn_mul, pe_sub, pb_0, pb_1, pb_z, pe_ieq, pe_ine, pe_ik, pP_si, pS_si, pn_si, ps_si, pL_si, decide_true, ofNat_nI, pe_srI, pe_srN, pe_srS, pe_srP, not_true_eq_false, not_false_eq_true, true_and, and_true, and_self, false_and, and_false, nI_m1, nI_ms, Nat.add_sub_cancel, pl_0, pl_1, pl_2, pl_3, pl_4, pl_5, pl_6, pl_7, pl_8, pl_9, pl_10, pl_11, pl_12, pl_13, pl_14, pl_15, pl_16, pl_17, pl_18, pl_19, pl_20, pl_21, pl_22, pl_23, pl_24, pl_25, pl_26, pl_27, pl_28, pl_29, pl_30, pl_31, pl_32, pl_34, pl_36, pl_37, pl_40, pl_41, pl_42, pl_43, pl_45, pl_47, pl_48, pl_50, pl_57, pl_59, pl_60, pl_61, pl_62, pl_64, pl_70, pl_91, pl_93, pl_97, pl_98, pl_99, pl_100, pl_106, pl_122, pl_128, pl_136, pl_142, pl_165, pl_168, pl_170, pl_171, pl_173, pl_175, pl_187, pl_188, pl_189, pl_190, pl_206, pl_211, pl_219, pl_229, pl_255, pl_260, pl_400, pl_500, pl_512, pl_900, pl_999, pl_1000, pl_1001, pl_1005, pl_1020, pl_1023, pl_1024, pl_1103, pl_2000, pl_2040, pl_2176, pl_5660, pl_9999, pl_12345, pl_1000000, pl_1000003, pl_100000000, pl_1000000000, pz_0, pz_1, pz_t, h4, ei, et]
/-- one joining in the reference -/
theorem joinR {m f : Nat} (hm : m + 2 ≤ 16) {w : Nat → Nat} {g : am_G} (hh : hld 32 (m + 2) w g) (hs : smf (fun x => x) w (m + 2) ≤ 1584) (x30 : Int32) : ∃ w2 w3 g', (∀ φ, smf φ w2 (m + 2) = smf φ w (m + 2)) ∧ (∀ j, j < m + 2 → w2 0 ≤ w2 j) ∧ (∀ j, j < m + 2 → j ≠ 0 → w2 1 ≤ w2 j) ∧ (∀ φ, smf φ w3 (m + 1) + φ (w2 0) + φ (w2 1) = smf φ w2 (m + 2) + φ (w2 0 + w2 1)) ∧ hld 32 (m + 1) w3 g' ∧ FrT g g' ∧ fX12_signs_L65 (f + 1) (nI (m + 2)) x30 g = fX12_signs_L65 f (nI (m + 1)) (x30 + nI (w2 0 + w2 1)) g' := by
  have f2 : am_fu = 1048573 + 1 + 1 + 1 := rfl
  obtain ⟨t0, a1, a2, a3, a4⟩ := swapR (i := 0) (f := 1048573 + 1 + 1) hm (by omega) (by omega) hh hs x30
  have hh1 := hh.sw (i := 0) (p := t0)
  have hs1 : smf (fun x => x) (sw w 0 t0) (m + 2) ≤ 1584 := by rw [smf_sw (by omega) a1]; exact hs
  obtain ⟨t1, b1, b2, b3, b4⟩ := swapR (i := 1) (f := 1048573 + 1) hm (by omega) (by omega) hh1 hs1 x30
  have hh2 := hh1.sw (i := 1) (p := t1)
  have hf : FrT g (am_si (am_si (am_si (am_si g 32 0 (nI (w t0))) 32 t0 (nI (w 0))) 32 1 (nI (sw w 0 t0 t1))) 32 t1 (nI (sw w 0 t0 1))) := ((((FrT.rf g).si (by unfold scR; omega) _).si (by unfold scR; omega) _).si (by unfold scR; omega) _).si (by unfold scR; omega) _
  generalize hg2 : am_si (am_si (am_si (am_si g 32 0 (nI (w t0))) 32 t0 (nI (w 0))) 32 1 (nI (sw w 0 t0 t1))) 32 t1 (nI (sw w 0 t0 1)) = g2 at *
  have c0 : ∀ j, j < m + 2 → sw (sw w 0 t0) 1 t1 0 ≤ sw (sw w 0 t0) 1 t1 j := by
    intro j hj
    have key : ∀ j, j < m + 2 → sw w 0 t0 0 ≤ sw w 0 t0 j := by
      intro j hj
      unfold sw
      have : (if (0 : Nat) = t0 then 0 else if (0 : Nat) = 0 then t0 else 0) = t0 := by split <;> simp_all
      rw [this]
      apply a3
      · omega
      · split
        · omega
        · split <;> omega
    unfold sw at key ⊢
    rw [if_neg (show ¬ (0 : Nat) = t1 by omega), if_neg (show ¬ (0 : Nat) = 1 by omega)]
    apply key
    split
    · omega
    · split <;> omega
  have c1 : ∀ j, j < m + 2 → j ≠ 0 → sw (sw w 0 t0) 1 t1 1 ≤ sw (sw w 0 t0) 1 t1 j := by
    intro j hj hj0
    have e1 : sw (sw w 0 t0) 1 t1 1 = sw w 0 t0 t1 := by
      show sw w 0 t0 (if 1 = t1 then 1 else if 1 = 1 then t1 else 1) = _
      by_cases h : 1 = t1
      · rw [if_pos h, ← h]
      · rw [if_neg h, if_pos rfl]
    rw [e1]
    show _ ≤ sw w 0 t0 (if j = t1 then 1 else if j = 1 then t1 else j)
    apply b3
    · split
      · omega
      · split <;> omega
    · split
      · omega
      · split <;> omega
  have sφ : ∀ φ, smf φ (sw (sw w 0 t0) 1 t1) (m + 2) = smf φ w (m + 2) := fun φ => by rw [smf_sw (by omega) b1, smf_sw (by omega) a1]
  generalize sw (sw w 0 t0) 1 t1 = w2 at *
  refine ⟨w2, am_up (am_up w2 0 (w2 0 + w2 1)) 1 (am_up w2 0 (w2 0 + w2 1) (m + 1)), am_si (am_si g2 32 0 (nI (w2 0 + w2 1))) 32 1 (nI (am_up w2 0 (w2 0 + w2 1) (m + 1))), sφ, c0, c1, fun φ => ?_, fun i hi => hh2.up.up i (by omega), (hf.si (by unfold scR; omega) _).si (by unfold scR; omega) _, ?_⟩
  · have u1 := smf_up (φ := φ) (w := w2) (y := w2 0 + w2 1) (m + 2) (show 0 < m + 2 by omega)
    have u2 := smf_up (φ := φ) (w := am_up w2 0 (w2 0 + w2 1)) (y := am_up w2 0 (w2 0 + w2 1) (m + 1)) (m + 2) (show 1 < m + 2 by omega)
    rw [am_up_ne (show (1 : Nat) ≠ 0 by decide)] at u2
    rw [smf] at u2
    have u3 : am_up (am_up w2 0 (w2 0 + w2 1)) 1 (am_up w2 0 (w2 0 + w2 1) (m + 1)) (m + 1) = am_up w2 0 (w2 0 + w2 1) (m + 1) := by
      by_cases e : m + 1 = 1
      · rw [e, am_up_eq]
      · rw [am_up_ne e]
    rw [u3] at u2
    omega
  · have e0 := hh2 0 (by omega)
    have e1 := hh2 1 (by omega)
    have em := (hh2.up (k := 0) (y := w2 0 + w2 1)) (m + 1) (by omega)
    have b4' : ∀ k, fX12_signs_L72 k (nI (m + 2)) x30 (1048573 + 1 + 1) (nI 1) (am_si (am_si g 32 0 (nI (w t0))) 32 t0 (nI (w 0))) = k g2 := by
      intro k
      rw [b4 k, fX12_signs_L72]
      simp (disch := first | omega | assumption | decide) only [↓pv_let, ↓pv_jn, ↓reduceIte, pv_bd, ↓pv_ocs, ↓pv_ocn, pv_gdt, pe_gd, pe_clamp, pt_eq, pf_eq, pt_le, pf_le, pt_lt, pf_lt, nI_add, nn_mul, pe_sub, pb_0, pb_1, pb_z, pe_ieq, pe_ine, pe_ik, pP_si, pS_si, pn_si, ps_si, pL_si, decide_true, ofNat_nI, pe_srI, pe_srN, pe_srS, pe_srP, not_true_eq_false, not_false_eq_true, true_and, and_true, and_self, false_and, and_false, nI_m1, nI_ms, Nat.add_sub_cancel, pl_0, pl_1, pl_2, pl_3, pl_4, pl_5, pl_6, pl_7, pl_8, pl_9, pl_10, pl_11, pl_12, pl_13, pl_14, pl_15, pl_16, pl_17, pl_18, pl_19, pl_20, pl_21, pl_22, pl_23, pl_24, pl_25, pl_26, pl_27, pl_28, pl_29, pl_30, pl_31, pl_32, pl_34, pl_36, pl_37, pl_40, pl_41, pl_42, pl_43, pl_45, pl_47, pl_48, pl_50, pl_57, pl_59, pl_60, pl_61, pl_62, pl_64, pl_70, pl_91, pl_93, pl_97, pl_98, pl_99, pl_100, pl_106, pl_122, pl_128, pl_136, pl_142, pl_165, pl_168, pl_170, pl_171, pl_173, pl_175, pl_187, pl_188, pl_189, pl_190, pl_206, pl_211, pl_219, pl_229, pl_255, pl_260, pl_400, pl_500, pl_512, pl_900, pl_999, pl_1000, pl_1001, pl_1005, pl_1020, pl_1023, pl_1024, pl_1103, pl_2000, pl_2040, pl_2176, pl_5660, pl_9999, pl_12345, pl_1000000, pl_1000003, pl_100000000, pl_1000000000, pz_0, pz_1, pz_t]
    have a4' : ∀ k, fX12_signs_L72 k (nI (m + 2)) x30 am_fu (nI 0) g = k g2 := by
      intro k
      rw [f2, a4 k, ← b4' k]
    have hm1 : m + 2 - 1 = m + 1 := rfl
    rw [fX12_signs_L65]
    have em0 := hh2 (m + 1) (by omega)
    have eu : am_up w2 0 (w2 0 + w2 1) (m + 1) = w2 (m + 1) := am_up_ne (by omega)
    simp (disch := first | omega | assumption | decide) only [↓pv_let, ↓pv_jn, ↓reduceIte, pv_bd, ↓pv_ocs, ↓pv_ocn, pv_gdt, pe_gd, pe_clamp, pt_eq, pf_eq, pt_le, pf_le, pt_lt, pf_lt, nI_add, nn_mul, pe_sub, pb_0, pb_1, pb_z, pe_ieq, pe_ine, pe_ik, pP_si, pS_si, pn_si, ps_si, pL_si, decide_true, ofNat_nI, pe_srI, pe_srN, pe_srS, pe_srP, not_true_eq_false, not_false_eq_true, true_and, and_true, and_self, false_and, and_false, nI_m1, nI_ms, Nat.add_sub_cancel, pl_0, pl_1, pl_2, pl_3, pl_4, pl_5, pl_6, pl_7, pl_8, pl_9, pl_10, pl_11, pl_12, pl_13, pl_14, pl_15, pl_16, pl_17, pl_18, pl_19, pl_20, pl_21, pl_22, pl_23, pl_24, pl_25, pl_26, pl_27, pl_28, pl_29, pl_30, pl_31, pl_32, pl_34, pl_36, pl_37, pl_40, pl_41, pl_42, pl_43, pl_45, pl_47, pl_48, pl_50, pl_57, pl_59, pl_60, pl_61, pl_62, pl_64, pl_70, pl_91, pl_93, pl_97, pl_98, pl_99, pl_100, pl_106, pl_122, pl_128, pl_136, pl_142, pl_165, pl_168, pl_170, pl_171, pl_173, pl_175, pl_187, pl_188, pl_189, pl_190, pl_206, pl_211, pl_219, pl_229, pl_255, pl_260, pl_400, pl_500, pl_512, pl_900, pl_999, pl_1000, pl_1001, pl_1005, pl_1020, pl_1023, pl_1024, pl_1103, pl_2000, pl_2040, pl_2176, pl_5660, pl_9999, pl_12345, pl_1000000, pl_1000003, pl_100000000, pl_1000000000, pz_0, pz_1, pz_t, a4', hm1, e0, e1, em0, eu]
theorem fXlight (a : Int32) (g : am_G) : fX11_lightestLast a g = fX11_lightestLast_L2 a am_fu (nI 0) g := rfl
/-- one joining in the class -/
theorem joinC {m f : Nat} (hm : m + 2 ≤ 16) {w : Nat → Nat} {g : am_G} (hh : hld 78 (m + 2) w g) (hs : smf (fun x => x) w (m + 2) ≤ 1584) (x30 : Int32) : ∃ w2 w3 g', (∀ φ, smf φ w2 (m + 2) = smf φ w (m + 2)) ∧ (∀ j, j < m + 2 → w2 (m + 1) ≤ w2 j) ∧ (∀ j, j < m + 2 → j ≠ m + 1 → w2 m ≤ w2 j) ∧ (∀ φ, smf φ w3 (m + 1) + φ (w2 (m + 1)) + φ (w2 m) = smf φ w2 (m + 2) + φ (w2 m + w2 (m + 1))) ∧ hld 78 (m + 1) w3 g' ∧ FcS g g' ∧ fX11_signs_L74 (f + 1) (nI (m + 2)) x30 g = fX11_signs_L74 f (nI (m + 1)) (x30 + nI (w2 m + w2 (m + 1))) g' := by
  obtain ⟨g1, w1, a1, a2, a3, a4, a5, a6, a7⟩ := lightL (m := m + 1) (M := m + 2) (by omega) hm (m + 1) 0 am_fu g w (by omega) (by have : am_fu = 1048576 := rfl; omega) hh hs (fun j hj => absurd hj (by omega))
  obtain ⟨g2, w2, b1, b2, b3, b4, b5, b6, b7⟩ := lightL (m := m) (M := m + 2) (by omega) hm m 0 am_fu g1 w1 (by omega) (by have : am_fu = 1048576 := rfl; omega) a3 (by rw [a6]; exact hs) (fun j hj => absurd hj (by omega))
  have e1 : w2 (m + 1) = w1 (m + 1) := b4 (m + 1) (by omega)
  have c1 : ∀ j, j < m + 2 → w2 (m + 1) ≤ w2 j := by
    intro j hj
    have h1 := min1 (w := w2) (w' := w1) (n := m + 2) (p := j) (p' := m + 1) (fun φ => b6 φ) hj (fun jj hjj => a7 jj (by omega))
    omega
  refine ⟨w2, am_up w2 m (w2 m + w2 (m + 1)), am_si g2 78 m (nI (w2 m + w2 (m + 1))), fun φ => by rw [b6, a6], c1, fun j hj hne => b7 j (by omega), fun φ => ?_, fun i hi => b3.up i (by omega), (a2.tr b2).si (by omega) _ _, ?_⟩
  · have u1 := smf_up (φ := φ) (w := w2) (y := w2 m + w2 (m + 1)) (m + 1) (show m < m + 1 by omega)
    rw [smf.eq_def φ w2 (m + 2)]
    show _ = smf φ w2 (m + 1) + φ (w2 (m + 1)) + _
    omega
  · have em := b3 m (by omega)
    have em1 := b3 (m + 1) (by omega)
    have i2 : nI (m + 2) - nI 2 = nI m := nn_sub (by omega)
    have hm1 : m + 2 - 1 = m + 1 := rfl
    rw [fX11_signs_L74]
    simp (disch := first | omega | assumption | decide) only [↓pv_let, ↓pv_jn, ↓reduceIte, pv_bd, ↓pv_ocs, ↓pv_ocn, pv_gdt, pe_gd, pe_clamp, pt_eq, pf_eq, pt_le, pf_le, pt_lt, pf_lt, nI_add, nn_mul, pe_sub, pb_0, pb_1, pb_z, pe_ieq, pe_ine, pe_ik, pP_si, pS_si, pn_si, ps_si, pL_si, decide_true, ofNat_nI, pe_srI, pe_srN, pe_srS, pe_srP, not_true_eq_false, not_false_eq_true, true_and, and_true, and_self, false_and, and_false, nI_m1, nI_ms, Nat.add_sub_cancel, pl_0, pl_1, pl_2, pl_3, pl_4, pl_5, pl_6, pl_7, pl_8, pl_9, pl_10, pl_11, pl_12, pl_13, pl_14, pl_15, pl_16, pl_17, pl_18, pl_19, pl_20, pl_21, pl_22, pl_23, pl_24, pl_25, pl_26, pl_27, pl_28, pl_29, pl_30, pl_31, pl_32, pl_34, pl_36, pl_37, pl_40, pl_41, pl_42, pl_43, pl_45, pl_47, pl_48, pl_50, pl_57, pl_59, pl_60, pl_61, pl_62, pl_64, pl_70, pl_91, pl_93, pl_97, pl_98, pl_99, pl_100, pl_106, pl_122, pl_128, pl_136, pl_142, pl_165, pl_168, pl_170, pl_171, pl_173, pl_175, pl_187, pl_188, pl_189, pl_190, pl_206, pl_211, pl_219, pl_229, pl_255, pl_260, pl_400, pl_500, pl_512, pl_900, pl_999, pl_1000, pl_1001, pl_1005, pl_1020, pl_1023, pl_1024, pl_1103, pl_2000, pl_2040, pl_2176, pl_5660, pl_9999, pl_12345, pl_1000000, pl_1000003, pl_100000000, pl_1000000000, pz_0, pz_1, pz_t, fXlight, a1, hm1, b1, em, em1, i2]
theorem signsJ : ∀ (m fc fr : Nat) (wc wr : Nat → Nat) (gc gr : am_G) (x : Int32), m ≤ 16 → m < fc → m < fr → hld 78 m wc gc → hld 32 m wr gr → (∀ φ, smf φ wc m = smf φ wr m) → smf (fun x => x) wc m ≤ 1584 → ∃ v gc' gr', fX11_signs_L74 fc (nI m) x gc = some (v, gc') ∧ fX12_signs_L65 fr (nI m) x gr = some (v, gr') ∧ FcS gc gc' ∧ FrT gr gr'
  | 0, fc, fr, wc, wr, gc, gr, x, hm, h1, h2, _, _, _, _ => by
    obtain ⟨fc, rfl⟩ : ∃ m, fc = m + 1 := ⟨fc - 1, by omega⟩
    obtain ⟨fr, rfl⟩ : ∃ m, fr = m + 1 := ⟨fr - 1, by omega⟩
    refine ⟨x, gc, gr, ?_, ?_, FcS.rf _, FrT.rf _⟩
    · rw [fX11_signs_L74]
      simp (disch := first | omega | assumption | decide) only [↓pv_let, ↓pv_jn, ↓reduceIte, pv_bd, ↓pv_ocs, ↓pv_ocn, pv_gdt, pe_gd, pe_clamp, pt_eq, pf_eq, pt_le, pf_le, pt_lt, pf_lt, nI_add, nn_mul, pe_sub, pb_0, pb_1, pb_z, pe_ieq, pe_ine, pe_ik, pP_si, pS_si, pn_si, ps_si, pL_si, decide_true, ofNat_nI, pe_srI, pe_srN, pe_srS, pe_srP, not_true_eq_false, not_false_eq_true, true_and, and_true, and_self, false_and, and_false, nI_m1, nI_ms, Nat.add_sub_cancel, pl_0, pl_1, pl_2, pl_3, pl_4, pl_5, pl_6, pl_7, pl_8, pl_9, pl_10, pl_11, pl_12, pl_13, pl_14, pl_15, pl_16, pl_17, pl_18, pl_19, pl_20, pl_21, pl_22, pl_23, pl_24, pl_25, pl_26, pl_27, pl_28, pl_29, pl_30, pl_31, pl_32, pl_34, pl_36, pl_37, pl_40, pl_41, pl_42, pl_43, pl_45, pl_47, pl_48, pl_50, pl_57, pl_59, pl_60, pl_61, pl_62, pl_64, pl_70, pl_91, pl_93, pl_97, pl_98, pl_99, pl_100, pl_106, pl_122, pl_128, pl_136, pl_142, pl_165, pl_168, pl_170, pl_171, pl_173, pl_175, pl_187, pl_188, pl_189, pl_190, pl_206, pl_211, pl_219, pl_229, pl_255, pl_260, pl_400, pl_500, pl_512, pl_900, pl_999, pl_1000, pl_1001, pl_1005, pl_1020, pl_1023, pl_1024, pl_1103, pl_2000, pl_2040, pl_2176, pl_5660, pl_9999, pl_12345, pl_1000000, pl_1000003, pl_100000000, pl_1000000000, pz_0, pz_1, pz_t]
    · rw [fX12_signs_L65]
      simp (disch := first | omega | assumption | decide) only [↓pv_let, ↓pv_jn, ↓reduceIte, pv_bd, ↓pv_ocs, ↓pv_ocn, pv_gdt, pe_gd, pe_clamp, pt_eq, pf_eq, pt_le, pf_le, pt_lt, pf_lt, nI_add, nn_mul, pe_sub, pb_0, pb_1, pb_z, pe_ieq, pe_ine, pe_ik, pP_si, pS_si, pn_si, ps_si, pL_si, decide_true, ofNat_nI, pe_srI, pe_srN, pe_srS, pe_srP, not_true_eq_false, not_false_eq_true, true_and, and_true, and_self, false_and, and_false, nI_m1, nI_ms, Nat.add_sub_cancel, pl_0, pl_1, pl_2, pl_3, pl_4, pl_5, pl_6, pl_7, pl_8, pl_9, pl_10, pl_11, pl_12, pl_13, pl_14, pl_15, pl_16, pl_17, pl_18, pl_19, pl_20, pl_21, pl_22, pl_23, pl_24, pl_25, pl_26, pl_27, pl_28, pl_29, pl_30, pl_31, pl_32, pl_34, pl_36, pl_37, pl_40, pl_41, pl_42, pl_43, pl_45, pl_47, pl_48, pl_50, pl_57, pl_59, pl_60, pl_61, pl_62, pl_64, pl_70, pl_91, pl_93, pl_97, pl_98, pl_99, pl_100, pl_106, pl_122, pl_128, pl_136, pl_142, pl_165, pl_168, pl_170, pl_171, pl_173, pl_175, pl_187, pl_188, pl_189, pl_190, pl_206, pl_211, pl_219, pl_229, pl_255, pl_260, pl_400, pl_500, pl_512, pl_900, pl_999, pl_1000, pl_1001, pl_1005, pl_1020, pl_1023, pl_1024, pl_1103, pl_2000, pl_2040, pl_2176, pl_5660, pl_9999, pl_12345, pl_1000000, pl_1000003, pl_100000000, pl_1000000000, pz_0, pz_1, pz_t]
  | 1, fc, fr, wc, wr, gc, gr, x, hm, h1, h2, _, _, _, _ => by
    obtain ⟨fc, rfl⟩ : ∃ m, fc = m + 1 := ⟨fc - 1, by omega⟩
    obtain ⟨fr, rfl⟩ : ∃ m, fr = m + 1 := ⟨fr - 1, by omega⟩
    refine ⟨x, gc, gr, ?_, ?_, FcS.rf _, FrT.rf _⟩
    · rw [fX11_signs_L74]
      simp (disch := first | omega | assumption | decide) only [↓pv_let, ↓pv_jn, ↓reduceIte, pv_bd, ↓pv_ocs, ↓pv_ocn, pv_gdt, pe_gd, pe_clamp, pt_eq, pf_eq, pt_le, pf_le, pt_lt, pf_lt, nI_add, nn_mul, pe_sub, pb_0, pb_1, pb_z, pe_ieq, pe_ine, pe_ik, pP_si, pS_si, pn_si, ps_si, pL_si, decide_true, ofNat_nI, pe_srI, pe_srN, pe_srS, pe_srP, not_true_eq_false, not_false_eq_true, true_and, and_true, and_self, false_and, and_false, nI_m1, nI_ms, Nat.add_sub_cancel, pl_0, pl_1, pl_2, pl_3, pl_4, pl_5, pl_6, pl_7, pl_8, pl_9, pl_10, pl_11, pl_12, pl_13, pl_14, pl_15, pl_16, pl_17, pl_18, pl_19, pl_20, pl_21, pl_22, pl_23, pl_24, pl_25, pl_26, pl_27, pl_28, pl_29, pl_30, pl_31, pl_32, pl_34, pl_36, pl_37, pl_40, pl_41, pl_42, pl_43, pl_45, pl_47, pl_48, pl_50, pl_57, pl_59, pl_60, pl_61, pl_62, pl_64, pl_70, pl_91, pl_93, pl_97, pl_98, pl_99, pl_100, pl_106, pl_122, pl_128, pl_136, pl_142, pl_165, pl_168, pl_170, pl_171, pl_173, pl_175, pl_187, pl_188, pl_189, pl_190, pl_206, pl_211, pl_219, pl_229, pl_255, pl_260, pl_400, pl_500, pl_512, pl_900, pl_999, pl_1000, pl_1001, pl_1005, pl_1020, pl_1023, pl_1024, pl_1103, pl_2000, pl_2040, pl_2176, pl_5660, pl_9999, pl_12345, pl_1000000, pl_1000003, pl_100000000, pl_1000000000, pz_0, pz_1, pz_t]
    · rw [fX12_signs_L65]
      simp (disch := first | omega | assumption | decide) only [↓pv_let, ↓pv_jn, ↓reduceIte, pv_bd, ↓pv_ocs, ↓pv_ocn, pv_gdt, pe_gd, pe_clamp, pt_eq, pf_eq, pt_le, pf_le, pt_lt, pf_lt, nI_add, nn_mul, pe_sub, pb_0, pb_1, pb_z, pe_ieq, pe_ine, pe_ik, pP_si, pS_si, pn_si, ps_si, pL_si, decide_true, ofNat_nI, pe_srI, pe_srN, pe_srS, pe_srP, not_true_eq_false, not_false_eq_true, true_and, and_true, and_self, false_and, and_false, nI_m1, nI_ms, Nat.add_sub_cancel, pl_0, pl_1, pl_2, pl_3, pl_4, pl_5, pl_6, pl_7, pl_8, pl_9, pl_10, pl_11, pl_12, pl_13, pl_14, pl_15, pl_16, pl_17, pl_18, pl_19, pl_20, pl_21, pl_22, pl_23, pl_24, pl_25, pl_26, pl_27, pl_28, pl_29, pl_30, pl_31, pl_32, pl_34, pl_36, pl_37, pl_40, pl_41, pl_42, pl_43, pl_45, pl_47, pl_48, pl_50, pl_57, pl_59, pl_60, pl_61, pl_62, pl_64, pl_70, pl_91, pl_93, pl_97, pl_98, pl_99, pl_100, pl_106, pl_122, pl_128, pl_136, pl_142, pl_165, pl_168, pl_170, pl_171, pl_173, pl_175, pl_187, pl_188, pl_189, pl_190, pl_206, pl_211, pl_219, pl_229, pl_255, pl_260, pl_400, pl_500, pl_512, pl_900, pl_999, pl_1000, pl_1001, pl_1005, pl_1020, pl_1023, pl_1024, pl_1103, pl_2000, pl_2040, pl_2176, pl_5660, pl_9999, pl_12345, pl_1000000, pl_1000003, pl_100000000, pl_1000000000, pz_0, pz_1, pz_t]
  | m + 2, fc, fr, wc, wr, gc, gr, x, hm, h1, h2, hc, hr, hp, hs => by
    obtain ⟨fc, rfl⟩ : ∃ m, fc = m + 1 := ⟨fc - 1, by omega⟩
    obtain ⟨fr, rfl⟩ : ∃ m, fr = m + 1 := ⟨fr - 1, by omega⟩
    obtain ⟨c2, c3, gc1, p1, p2, p3, p4, p5, p6, p7⟩ := joinC (f := fc) hm hc hs x
    obtain ⟨r2, r3, gr1, q1, q2, q3, q4, q5, q6, q7⟩ := joinR (f := fr) hm hr (by rw [← hp]; exact hs) x
    have hpp : ∀ φ, smf φ c2 (m + 2) = smf φ r2 (m + 2) := fun φ => by rw [p1, q1, hp]
    have e1 : c2 (m + 1) = r2 0 := Nat.le_antisymm (min1 (fun φ => (hpp φ).symm) (by omega) p2) (min1 hpp (by omega) q2)
    have e2 : c2 m = r2 1 := Nat.le_antisymm (min2 (w := r2) (w' := c2) (n := m + 2) (p := 0) (q := 1) (p' := m + 1) (q' := m) (fun φ => (hpp φ).symm) (by omega) (by omega) (by omega) (by omega) e1.symm p3) (min2 (w := c2) (w' := r2) (n := m + 2) (p := m + 1) (q := m) (p' := 0) (q' := 1) hpp (by omega) (by omega) (by omega) (by omega) e1 q3)
    have e3 : c2 m + c2 (m + 1) = r2 0 + r2 1 := by omega
    have h3 : ∀ φ, smf φ c3 (m + 1) = smf φ r3 (m + 1) := fun φ => by
      have y1 := p4 φ
      have y2 := q4 φ
      have y3 := hpp φ
      rw [e3, e1, e2] at y1
      omega
    obtain ⟨v, gc', gr', z1, z2, z3, z4⟩ := signsJ (m + 1) fc fr c3 r3 gc1 gr1 (x + nI (r2 0 + r2 1)) (by omega) (by omega) (by omega) p5 q5 h3 (by
      have y1 := p4 (fun x => x)
      have y2 := p1 (fun x => x)
      omega)
    exact ⟨v, gc', gr', by rw [p7, e3]; exact z1, by rw [q7]; exact z2, p6.tr z3, q6.tr z4⟩
def colN (o : Nat → Nat) : Nat → Nat
  | 0 => 0
  | i + 1 => if 0 < o i then colN o i + 1 else colN o i
def colW (o : Nat → Nat) : Nat → Nat → Nat
  | 0 => fun _ => 0
  | i + 1 => if 0 < o i then am_up (colW o i) (colN o i) (o i) else colW o i
theorem colN_le (o : Nat → Nat) : ∀ i, colN o i ≤ i
  | 0 => Nat.le_refl _
  | i + 1 => by rw [colN]; have := colN_le o i; split <;> omega
theorem colW_sm {o : Nat → Nat} (h : ∀ i, i < 16 → o i ≤ 99) : ∀ i, i ≤ 16 → smf (fun x => x) (colW o i) (colN o i) ≤ 99 * i
  | 0, _ => Nat.le_refl _
  | i + 1, hi => by
    have IH := colW_sm h i (by omega)
    have hb := h i (by omega)
    rw [colW, colN]
    split
    · rw [smf, smf_out _ (Nat.le_refl _), am_up_eq]
      omega
    · omega
theorem hld.put {a n y : Nat} {w : Nat → Nat} {g : am_G} (h : hld a n w g) : hld a (n + 1) (am_up w n y) (am_si g a n (nI y)) := fun i hi => by
  by_cases e : i = n
  · subst e; rw [pe_ieq, am_up_eq]
  · rw [pe_ik e, am_up_ne e]; exact h i (by omega)
theorem colC {o : Nat → Nat} {N : Nat} (hN : N ≤ 16) (ho : ∀ i, i < 16 → o i ≤ 99) : ∀ (d i n : Nat) (g : am_G), i + d = N → d < n → am_I g 12 4 = nI N → (∀ j, j < 16 → am_I g 16 j = nI (o j)) → hld 78 (colN o i) (colW o i) g → ∃ g', (∀ k, fX11_signs_L4 k n (nI (colN o i)) (nI i) g = k (nI (colN o N)) g') ∧ FcS g g' ∧ hld 78 (colN o N) (colW o N) g'
  | 0, i, n, g, hd, hn, e4, e16, hh => by
    obtain ⟨n, rfl⟩ : ∃ m, n = m + 1 := ⟨n - 1, by omega⟩
    obtain rfl : i = N := by omega
    refine ⟨g, fun k => ?_, FcS.rf g, hh⟩
    rw [fX11_signs_L4]
    simp (disch := first | omega | assumption | decide) only [↓pv_let, ↓pv_jn, ↓reduceIte, pv_bd, ↓pv_ocs, ↓pv_ocn, pv_gdt, pe_gd, pe_clamp, pt_eq, pf_eq, pt_le, pf_le, pt_lt, pf_lt, nI_add, nn_mul, pe_sub, pb_0, pb_1, pb_z, pe_ieq, pe_ine, pe_ik, pP_si, pS_si, pn_si, ps_si, pL_si, decide_true, ofNat_nI, pe_srI, pe_srN, pe_srS, pe_srP, not_true_eq_false, not_false_eq_true, true_and, and_true, and_self, false_and, and_false, nI_m1, nI_ms, Nat.add_sub_cancel, pl_0, pl_1, pl_2, pl_3, pl_4, pl_5, pl_6, pl_7, pl_8, pl_9, pl_10, pl_11, pl_12, pl_13, pl_14, pl_15, pl_16, pl_17, pl_18, pl_19, pl_20, pl_21, pl_22, pl_23, pl_24, pl_25, pl_26, pl_27, pl_28, pl_29, pl_30, pl_31, pl_32, pl_34, pl_36, pl_37, pl_40, pl_41, pl_42, pl_43, pl_45, pl_47, pl_48, pl_50, pl_57, pl_59, pl_60, pl_61, pl_62, pl_64, pl_70, pl_91, pl_93, pl_97, pl_98, pl_99, pl_100, pl_106, pl_122, pl_128, pl_136, pl_142, pl_165, pl_168, pl_170, pl_171, pl_173, pl_175, pl_187, pl_188, pl_189, pl_190, pl_206, pl_211, pl_219, pl_229, pl_255, pl_260, pl_400, pl_500, pl_512, pl_900, pl_999, pl_1000, pl_1001, pl_1005, pl_1020, pl_1023, pl_1024, pl_1103, pl_2000, pl_2040, pl_2176, pl_5660, pl_9999, pl_12345, pl_1000000, pl_1000003, pl_100000000, pl_1000000000, pz_0, pz_1, pz_t, e4]
  | d + 1, i, n, g, hd, hn, e4, e16, hh => by
    obtain ⟨n, rfl⟩ : ∃ m, n = m + 1 := ⟨n - 1, by omega⟩
    have eo := e16 i (by omega)
    have hb := ho i (by omega)
    have hc := colN_le o i
    by_cases h0 : 0 < o i
    · obtain ⟨g', z1, z2, z3⟩ := colC hN ho d (i + 1) n (am_si g 78 (colN o i) (nI (o i))) (by omega) (by omega) (by rw [pe_ine (by decide)]; exact e4) (fun j hj => by rw [pe_ine (by decide)]; exact e16 j hj) (by
        rw [colN, if_pos h0, colW, if_pos h0]
        exact hh.put)
      refine ⟨g', fun k => ?_, ((FcS.rf g).si (by omega) _ _).tr z2, z3⟩
      rw [← z1 k, fX11_signs_L4, show colN o (i + 1) = colN o i + 1 by rw [colN, if_pos h0]]
      simp (disch := first | omega | assumption | decide) only [↓pv_let, ↓pv_jn, ↓reduceIte, pv_bd, ↓pv_ocs, ↓pv_ocn, pv_gdt, pe_gd, pe_clamp, pt_eq, pf_eq, pt_le, pf_le, pt_lt, pf_lt, nI_add, nn_mul, pe_sub, pb_0, pb_1, pb_z, pe_ieq, pe_ine, pe_ik, pP_si, pS_si, pn_si, ps_si, pL_si, decide_true, ofNat_nI, pe_srI, pe_srN, pe_srS, pe_srP, not_true_eq_false, not_false_eq_true, true_and, and_true, and_self, false_and, and_false, nI_m1, nI_ms, Nat.add_sub_cancel, pl_0, pl_1, pl_2, pl_3, pl_4, pl_5, pl_6, pl_7, pl_8, pl_9, pl_10, pl_11, pl_12, pl_13, pl_14, pl_15, pl_16, pl_17, pl_18, pl_19, pl_20, pl_21, pl_22, pl_23, pl_24, pl_25, pl_26, pl_27, pl_28, pl_29, pl_30, pl_31, pl_32, pl_34, pl_36, pl_37, pl_40, pl_41, pl_42, pl_43, pl_45, pl_47, pl_48, pl_50, pl_57, pl_59, pl_60, pl_61, pl_62, pl_64, pl_70, pl_91, pl_93, pl_97, pl_98, pl_99, pl_100, pl_106, pl_122, pl_128, pl_136, pl_142, pl_165, pl_168, pl_170, pl_171, pl_173, pl_175, pl_187, pl_188, pl_189, pl_190, pl_206, pl_211, pl_219, pl_229, pl_255, pl_260, pl_400, pl_500, pl_512, pl_900, pl_999, pl_1000, pl_1001, pl_1005, pl_1020, pl_1023, pl_1024, pl_1103, pl_2000, pl_2040, pl_2176, pl_5660, pl_9999, pl_12345, pl_1000000, pl_1000003, pl_100000000, pl_1000000000, pz_0, pz_1, pz_t, e4, eo]
    · obtain ⟨g', z1, z2, z3⟩ := colC hN ho d (i + 1) n g (by omega) (by omega) e4 e16 (by
        rw [colN, if_neg h0, colW, if_neg h0]
        exact hh)
      refine ⟨g', fun k => ?_, z2, z3⟩
      rw [← z1 k, fX11_signs_L4, show colN o (i + 1) = colN o i by rw [colN, if_neg h0]]
      simp (disch := first | omega | assumption | decide) only [↓pv_let, ↓pv_jn, ↓reduceIte, pv_bd, ↓pv_ocs, ↓pv_ocn, pv_gdt, pe_gd, pe_clamp, pt_eq, pf_eq, pt_le, pf_le, pt_lt, pf_lt, nI_add, nn_mul, pe_sub, pb_0, pb_1, pb_z, pe_ieq, pe_ine, pe_ik, pP_si, pS_si, pn_si, ps_si, pL_si, decide_true, ofNat_nI, pe_srI, pe_srN, pe_srS, pe_srP, not_true_eq_false, not_false_eq_true, true_and, and_true, and_self, false_and, and_false, nI_m1, nI_ms, Nat.add_sub_cancel, pl_0, pl_1, pl_2, pl_3, pl_4, pl_5, pl_6, pl_7, pl_8, pl_9, pl_10, pl_11, pl_12, pl_13, pl_14, pl_15, pl_16, pl_17, pl_18, pl_19, pl_20, pl_21, pl_22, pl_23, pl_24, pl_25, pl_26, pl_27, pl_28, pl_29, pl_30, pl_31, pl_32, pl_34, pl_36, pl_37, pl_40, pl_41, pl_42, pl_43, pl_45, pl_47, pl_48, pl_50, pl_57, pl_59, pl_60, pl_61, pl_62, pl_64, pl_70, pl_91, pl_93, pl_97, pl_98, pl_99, pl_100, pl_106, pl_122, pl_128, pl_136, pl_142, pl_165, pl_168, pl_170, pl_171, pl_173, pl_175, pl_187, pl_188, pl_189, pl_190, pl_206, pl_211, pl_219, pl_229, pl_255, pl_260, pl_400, pl_500, pl_512, pl_900, pl_999, pl_1000, pl_1001, pl_1005, pl_1020, pl_1023, pl_1024, pl_1103, pl_2000, pl_2040, pl_2176, pl_5660, pl_9999, pl_12345, pl_1000000, pl_1000003, pl_100000000, pl_1000000000, pz_0, pz_1, pz_t, e4, eo]
theorem colR {o : Nat → Nat} {N : Nat} (hN : N ≤ 16) (ho : ∀ i, i < 16 → o i ≤ 99) : ∀ (d i n : Nat) (g : am_G), i + d = N → d < n → am_I g 2 0 = nI N → (∀ j, j < 16 → am_I g 2 (142 + 4 * j + 3) = nI (o j)) → hld 32 (colN o i) (colW o i) g → ∃ g', (∀ k, fX12_signs_L9 k n (nI (colN o i)) (nI i) g = k (nI (colN o N)) g') ∧ FrT g g' ∧ hld 32 (colN o N) (colW o N) g'
  | 0, i, n, g, hd, hn, e4, e16, hh => by
    obtain ⟨n, rfl⟩ : ∃ m, n = m + 1 := ⟨n - 1, by omega⟩
    obtain rfl : i = N := by omega
    refine ⟨g, fun k => ?_, FrT.rf g, hh⟩
    rw [fX12_signs_L9]
    simp (disch := first | omega | assumption | decide) only [↓pv_let, ↓pv_jn, ↓reduceIte, pv_bd, ↓pv_ocs, ↓pv_ocn, pv_gdt, pe_gd, pe_clamp, pt_eq, pf_eq, pt_le, pf_le, pt_lt, pf_lt, nI_add, nn_mul, pe_sub, pb_0, pb_1, pb_z, pe_ieq, pe_ine, pe_ik, pP_si, pS_si, pn_si, ps_si, pL_si, decide_true, ofNat_nI, pe_srI, pe_srN, pe_srS, pe_srP, not_true_eq_false, not_false_eq_true, true_and, and_true, and_self, false_and, and_false, nI_m1, nI_ms, Nat.add_sub_cancel, pl_0, pl_1, pl_2, pl_3, pl_4, pl_5, pl_6, pl_7, pl_8, pl_9, pl_10, pl_11, pl_12, pl_13, pl_14, pl_15, pl_16, pl_17, pl_18, pl_19, pl_20, pl_21, pl_22, pl_23, pl_24, pl_25, pl_26, pl_27, pl_28, pl_29, pl_30, pl_31, pl_32, pl_34, pl_36, pl_37, pl_40, pl_41, pl_42, pl_43, pl_45, pl_47, pl_48, pl_50, pl_57, pl_59, pl_60, pl_61, pl_62, pl_64, pl_70, pl_91, pl_93, pl_97, pl_98, pl_99, pl_100, pl_106, pl_122, pl_128, pl_136, pl_142, pl_165, pl_168, pl_170, pl_171, pl_173, pl_175, pl_187, pl_188, pl_189, pl_190, pl_206, pl_211, pl_219, pl_229, pl_255, pl_260, pl_400, pl_500, pl_512, pl_900, pl_999, pl_1000, pl_1001, pl_1005, pl_1020, pl_1023, pl_1024, pl_1103, pl_2000, pl_2040, pl_2176, pl_5660, pl_9999, pl_12345, pl_1000000, pl_1000003, pl_100000000, pl_1000000000, pz_0, pz_1, pz_t, e4]
  | d + 1, i, n, g, hd, hn, e4, e16, hh => by
    obtain ⟨n, rfl⟩ : ∃ m, n = m + 1 := ⟨n - 1, by omega⟩
    have eo := e16 i (by omega)
    have hb := ho i (by omega)
    have hc := colN_le o i
    by_cases h0 : 0 < o i
    · obtain ⟨g', z1, z2, z3⟩ := colR hN ho d (i + 1) n (am_si g 32 (colN o i) (nI (o i))) (by omega) (by omega) (by rw [pe_ine (by decide)]; exact e4) (fun j hj => by rw [pe_ine (by decide)]; exact e16 j hj) (by
        rw [colN, if_pos h0, colW, if_pos h0]
        exact hh.put)
      refine ⟨g', fun k => ?_, ((FrT.rf g).si (by unfold scR; omega) _).tr z2, z3⟩
      rw [← z1 k, fX12_signs_L9, show colN o (i + 1) = colN o i + 1 by rw [colN, if_pos h0]]
      simp (disch := first | omega | assumption | decide) only [↓pv_let, ↓pv_jn, ↓reduceIte, pv_bd, ↓pv_ocs, ↓pv_ocn, pv_gdt, pe_gd, pe_clamp, pt_eq, pf_eq, pt_le, pf_le, pt_lt, pf_lt, nI_add, nn_mul, pe_sub, pb_0, pb_1, pb_z, pe_ieq, pe_ine, pe_ik, pP_si, pS_si, pn_si, ps_si, pL_si, decide_true, ofNat_nI, pe_srI, pe_srN, pe_srS, pe_srP, not_true_eq_false, not_false_eq_true, true_and, and_true, and_self, false_and, and_false, nI_m1, nI_ms, Nat.add_sub_cancel, pl_0, pl_1, pl_2, pl_3, pl_4, pl_5, pl_6, pl_7, pl_8, pl_9, pl_10, pl_11, pl_12, pl_13, pl_14, pl_15, pl_16, pl_17, pl_18, pl_19, pl_20, pl_21, pl_22, pl_23, pl_24, pl_25, pl_26, pl_27, pl_28, pl_29, pl_30, pl_31, pl_32, pl_34, pl_36, pl_37, pl_40, pl_41, pl_42, pl_43, pl_45, pl_47, pl_48, pl_50, pl_57, pl_59, pl_60, pl_61, pl_62, pl_64, pl_70, pl_91, pl_93, pl_97, pl_98, pl_99, pl_100, pl_106, pl_122, pl_128, pl_136, pl_142, pl_165, pl_168, pl_170, pl_171, pl_173, pl_175, pl_187, pl_188, pl_189, pl_190, pl_206, pl_211, pl_219, pl_229, pl_255, pl_260, pl_400, pl_500, pl_512, pl_900, pl_999, pl_1000, pl_1001, pl_1005, pl_1020, pl_1023, pl_1024, pl_1103, pl_2000, pl_2040, pl_2176, pl_5660, pl_9999, pl_12345, pl_1000000, pl_1000003, pl_100000000, pl_1000000000, pz_0, pz_1, pz_t, e4, q12_ofWord, eo]
    · obtain ⟨g', z1, z2, z3⟩ := colR hN ho d (i + 1) n g (by omega) (by omega) e4 e16 (by
        rw [colN, if_neg h0, colW, if_neg h0]
        exact hh)
      refine ⟨g', fun k => ?_, z2, z3⟩
      rw [← z1 k, fX12_signs_L9, show colN o (i + 1) = colN o i by rw [colN, if_neg h0]]
      simp (disch := first | omega | assumption | decide) only [↓pv_let, ↓pv_jn, ↓reduceIte, pv_bd, ↓pv_ocs, ↓pv_ocn, pv_gdt, pe_gd, pe_clamp, pt_eq, pf_eq, pt_le, pf_le, pt_lt, pf_lt, nI_add, nn_mul, pe_sub, pb_0, pb_1, pb_z, pe_ieq, pe_ine, pe_ik, pP_si, pS_si, pn_si, ps_si, pL_si, decide_true, ofNat_nI, pe_srI, pe_srN, pe_srS, pe_srP, not_true_eq_false, not_false_eq_true, true_and, and_true, and_self, false_and, and_false, nI_m1, nI_ms, Nat.add_sub_cancel, pl_0, pl_1, pl_2, pl_3, pl_4, pl_5, pl_6, pl_7, pl_8, pl_9, pl_10, pl_11, pl_12, pl_13, pl_14, pl_15, pl_16, pl_17, pl_18, pl_19, pl_20, pl_21, pl_22, pl_23, pl_24, pl_25, pl_26, pl_27, pl_28, pl_29, pl_30, pl_31, pl_32, pl_34, pl_36, pl_37, pl_40, pl_41, pl_42, pl_43, pl_45, pl_47, pl_48, pl_50, pl_57, pl_59, pl_60, pl_61, pl_62, pl_64, pl_70, pl_91, pl_93, pl_97, pl_98, pl_99, pl_100, pl_106, pl_122, pl_128, pl_136, pl_142, pl_165, pl_168, pl_170, pl_171, pl_173, pl_175, pl_187, pl_188, pl_189, pl_190, pl_206, pl_211, pl_219, pl_229, pl_255, pl_260, pl_400, pl_500, pl_512, pl_900, pl_999, pl_1000, pl_1001, pl_1005, pl_1020, pl_1023, pl_1024, pl_1103, pl_2000, pl_2040, pl_2176, pl_5660, pl_9999, pl_12345, pl_1000000, pl_1000003, pl_100000000, pl_1000000000, pz_0, pz_1, pz_t, e4, q12_ofWord, eo]
theorem m_signs {t : Nat} {gc gr : am_G} (h : Rel t gc gr) : ∃ (v : Int32) (gc1 gr1 : am_G), fX11_signs gc = some (v, gc1) ∧ fX12_signs gr = some (v, gr1) ∧ Rel (t + 1) gc1 gr1 := by
  have hT := RelM.thr h
  obtain ⟨N, hN, eN, eNc⟩ := hT.cntw
  have hex : ∀ j, j < 16 → ∃ m, m ≤ 99 ∧ am_I (thr gr) 2 (142 + 4 * j + 3) = nI m := fun j hj => okAt_nat ((hT.2.1.1 (142 + 4 * j + 3) (by omega)).2 (by unfold stp; omega)) (by omega) (by unfold okLo; rw [if_neg (by omega), if_neg (by omega)]) (by unfold okHi; (repeat rw [if_neg (by omega)]); rw [if_pos (by omega), if_neg (by omega), if_pos (by omega)]; rfl)
  obtain ⟨o, ho⟩ : ∃ o : Nat → Nat, ∀ j, j < 16 → o j ≤ 99 ∧ am_I (thr gr) 2 (142 + 4 * j + 3) = nI (o j) := ⟨fun j => (am_I (thr gr) 2 (142 + 4 * j + 3)).toNatClampNeg, fun j hj => by
    obtain ⟨m, h1, h2⟩ := hex j hj
    have h3 : (am_I (thr gr) 2 (142 + 4 * j + 3)).toNatClampNeg = m := by rw [h2, pe_clamp (by omega)]
    exact ⟨by show (am_I (thr gr) 2 (142 + 4 * j + 3)).toNatClampNeg ≤ 99; rw [h3]; exact h1, by show _ = nI (am_I (thr gr) 2 (142 + 4 * j + 3)).toNatClampNeg; rw [h3]; exact h2⟩⟩
  have oc : ∀ j, j < 16 → am_I gc 16 j = nI (o j) := fun j hj => (hT.1.at (om_word j hj 3 (by decide))).trans (ho j hj).2
  obtain ⟨gc1, c1, c2, c3⟩ := colC hN (fun i hi => (ho i hi).1) N 0 am_fu gc (by omega) (by have : am_fu = 1048576 := rfl; omega) eNc oc (fun i hi => absurd hi (by rw [colN]; omega))
  obtain ⟨gr1, r1, r2, r3⟩ := colR hN (fun i hi => (ho i hi).1) N 0 am_fu (thr gr) (by omega) (by have : am_fu = 1048576 := rfl; omega) eN (fun j hj => (ho j hj).2) (fun i hi => absurd hi (by rw [colN]; omega))
  have hm := colN_le o N
  have hs := colW_sm (fun i hi => (ho i hi).1) N hN
  unfold fX11_signs fX12_signs
  rw [colN] at c1 r1
  by_cases e1 : colN o N = 1
  · rw [e1] at c1 r1 c3 r3
    have ec := c3 0 (by omega)
    have er := r3 0 (by omega)
    refine ⟨nI (colW o N 0), gc1, gr1, ?_, ?_, Rel.nx (hT.scrT c2 r2)⟩
    · simp (disch := first | omega | assumption | decide) only [↓pv_let, ↓pv_jn, ↓reduceIte, pv_bd, ↓pv_ocs, ↓pv_ocn, pv_gdt, pe_gd, pe_clamp, pt_eq, pf_eq, pt_le, pf_le, pt_lt, pf_lt, nI_add, nn_mul, pe_sub, pb_0, pb_1, pb_z, pe_ieq, pe_ine, pe_ik, pP_si, pS_si, pn_si, ps_si, pL_si, decide_true, ofNat_nI, pe_srI, pe_srN, pe_srS, pe_srP, not_true_eq_false, not_false_eq_true, true_and, and_true, and_self, false_and, and_false, nI_m1, nI_ms, Nat.add_sub_cancel, pl_0, pl_1, pl_2, pl_3, pl_4, pl_5, pl_6, pl_7, pl_8, pl_9, pl_10, pl_11, pl_12, pl_13, pl_14, pl_15, pl_16, pl_17, pl_18, pl_19, pl_20, pl_21, pl_22, pl_23, pl_24, pl_25, pl_26, pl_27, pl_28, pl_29, pl_30, pl_31, pl_32, pl_34, pl_36, pl_37, pl_40, pl_41, pl_42, pl_43, pl_45, pl_47, pl_48, pl_50, pl_57, pl_59, pl_60, pl_61, pl_62, pl_64, pl_70, pl_91, pl_93, pl_97, pl_98, pl_99, pl_100, pl_106, pl_122, pl_128, pl_136, pl_142, pl_165, pl_168, pl_170, pl_171, pl_173, pl_175, pl_187, pl_188, pl_189, pl_190, pl_206, pl_211, pl_219, pl_229, pl_255, pl_260, pl_400, pl_500, pl_512, pl_900, pl_999, pl_1000, pl_1001, pl_1005, pl_1020, pl_1023, pl_1024, pl_1103, pl_2000, pl_2040, pl_2176, pl_5660, pl_9999, pl_12345, pl_1000000, pl_1000003, pl_100000000, pl_1000000000, pz_0, pz_1, pz_t, c1, ec]
    · have f1 : am_fu = 1048575 + 1 := rfl
      have k1 : fX12_signs_L65 am_fu (nI 1) (nI (colW o N 0)) gr1 = some (nI (colW o N 0), gr1) := by
        rw [f1, fX12_signs_L65]
        simp (disch := first | omega | assumption | decide) only [↓pv_let, ↓pv_jn, ↓reduceIte, pv_bd, ↓pv_ocs, ↓pv_ocn, pv_gdt, pe_gd, pe_clamp, pt_eq, pf_eq, pt_le, pf_le, pt_lt, pf_lt, nI_add, nn_mul, pe_sub, pb_0, pb_1, pb_z, pe_ieq, pe_ine, pe_ik, pP_si, pS_si, pn_si, ps_si, pL_si, decide_true, ofNat_nI, pe_srI, pe_srN, pe_srS, pe_srP, not_true_eq_false, not_false_eq_true, true_and, and_true, and_self, false_and, and_false, nI_m1, nI_ms, Nat.add_sub_cancel, pl_0, pl_1, pl_2, pl_3, pl_4, pl_5, pl_6, pl_7, pl_8, pl_9, pl_10, pl_11, pl_12, pl_13, pl_14, pl_15, pl_16, pl_17, pl_18, pl_19, pl_20, pl_21, pl_22, pl_23, pl_24, pl_25, pl_26, pl_27, pl_28, pl_29, pl_30, pl_31, pl_32, pl_34, pl_36, pl_37, pl_40, pl_41, pl_42, pl_43, pl_45, pl_47, pl_48, pl_50, pl_57, pl_59, pl_60, pl_61, pl_62, pl_64, pl_70, pl_91, pl_93, pl_97, pl_98, pl_99, pl_100, pl_106, pl_122, pl_128, pl_136, pl_142, pl_165, pl_168, pl_170, pl_171, pl_173, pl_175, pl_187, pl_188, pl_189, pl_190, pl_206, pl_211, pl_219, pl_229, pl_255, pl_260, pl_400, pl_500, pl_512, pl_900, pl_999, pl_1000, pl_1001, pl_1005, pl_1020, pl_1023, pl_1024, pl_1103, pl_2000, pl_2040, pl_2176, pl_5660, pl_9999, pl_12345, pl_1000000, pl_1000003, pl_100000000, pl_1000000000, pz_0, pz_1, pz_t]
      simp (disch := first | omega | assumption | decide) only [↓pv_let, ↓pv_jn, ↓reduceIte, pv_bd, ↓pv_ocs, ↓pv_ocn, pv_gdt, pe_gd, pe_clamp, pt_eq, pf_eq, pt_le, pf_le, pt_lt, pf_lt, nI_add, nn_mul, pe_sub, pb_0, pb_1, pb_z, pe_ieq, pe_ine, pe_ik, pP_si, pS_si, pn_si, ps_si, pL_si, decide_true, ofNat_nI, pe_srI, pe_srN, pe_srS, pe_srP, not_true_eq_false, not_false_eq_true, true_and, and_true, and_self, false_and, and_false, nI_m1, nI_ms, Nat.add_sub_cancel, pl_0, pl_1, pl_2, pl_3, pl_4, pl_5, pl_6, pl_7, pl_8, pl_9, pl_10, pl_11, pl_12, pl_13, pl_14, pl_15, pl_16, pl_17, pl_18, pl_19, pl_20, pl_21, pl_22, pl_23, pl_24, pl_25, pl_26, pl_27, pl_28, pl_29, pl_30, pl_31, pl_32, pl_34, pl_36, pl_37, pl_40, pl_41, pl_42, pl_43, pl_45, pl_47, pl_48, pl_50, pl_57, pl_59, pl_60, pl_61, pl_62, pl_64, pl_70, pl_91, pl_93, pl_97, pl_98, pl_99, pl_100, pl_106, pl_122, pl_128, pl_136, pl_142, pl_165, pl_168, pl_170, pl_171, pl_173, pl_175, pl_187, pl_188, pl_189, pl_190, pl_206, pl_211, pl_219, pl_229, pl_255, pl_260, pl_400, pl_500, pl_512, pl_900, pl_999, pl_1000, pl_1001, pl_1005, pl_1020, pl_1023, pl_1024, pl_1103, pl_2000, pl_2040, pl_2176, pl_5660, pl_9999, pl_12345, pl_1000000, pl_1000003, pl_100000000, pl_1000000000, pz_0, pz_1, pz_t, thr_0, r1, er, k1]
  · obtain ⟨v, gc2, gr2, j1, j2, j3, j4⟩ := signsJ (colN o N) am_fu am_fu _ _ gc1 gr1 (nI 0) (by omega) (by have : am_fu = 1048576 := rfl; omega) (by have : am_fu = 1048576 := rfl; omega) c3 r3 (fun _ => rfl) (by omega)
    refine ⟨v, gc2, gr2, ?_, ?_, Rel.nx (hT.scrT (c2.tr j3) (r2.tr j4))⟩
    · simp (disch := first | omega | assumption | decide) only [↓pv_let, ↓pv_jn, ↓reduceIte, pv_bd, ↓pv_ocs, ↓pv_ocn, pv_gdt, pe_gd, pe_clamp, pt_eq, pf_eq, pt_le, pf_le, pt_lt, pf_lt, nI_add, nn_mul, pe_sub, pb_0, pb_1, pb_z, pe_ieq, pe_ine, pe_ik, pP_si, pS_si, pn_si, ps_si, pL_si, decide_true, ofNat_nI, pe_srI, pe_srN, pe_srS, pe_srP, not_true_eq_false, not_false_eq_true, true_and, and_true, and_self, false_and, and_false, nI_m1, nI_ms, Nat.add_sub_cancel, pl_0, pl_1, pl_2, pl_3, pl_4, pl_5, pl_6, pl_7, pl_8, pl_9, pl_10, pl_11, pl_12, pl_13, pl_14, pl_15, pl_16, pl_17, pl_18, pl_19, pl_20, pl_21, pl_22, pl_23, pl_24, pl_25, pl_26, pl_27, pl_28, pl_29, pl_30, pl_31, pl_32, pl_34, pl_36, pl_37, pl_40, pl_41, pl_42, pl_43, pl_45, pl_47, pl_48, pl_50, pl_57, pl_59, pl_60, pl_61, pl_62, pl_64, pl_70, pl_91, pl_93, pl_97, pl_98, pl_99, pl_100, pl_106, pl_122, pl_128, pl_136, pl_142, pl_165, pl_168, pl_170, pl_171, pl_173, pl_175, pl_187, pl_188, pl_189, pl_190, pl_206, pl_211, pl_219, pl_229, pl_255, pl_260, pl_400, pl_500, pl_512, pl_900, pl_999, pl_1000, pl_1001, pl_1005, pl_1020, pl_1023, pl_1024, pl_1103, pl_2000, pl_2040, pl_2176, pl_5660, pl_9999, pl_12345, pl_1000000, pl_1000003, pl_100000000, pl_1000000000, pz_0, pz_1, pz_t, c1, j1]
    · simp (disch := first | omega | assumption | decide) only [↓pv_let, ↓pv_jn, ↓reduceIte, pv_bd, ↓pv_ocs, ↓pv_ocn, pv_gdt, pe_gd, pe_clamp, pt_eq, pf_eq, pt_le, pf_le, pt_lt, pf_lt, nI_add, nn_mul, pe_sub, pb_0, pb_1, pb_z, pe_ieq, pe_ine, pe_ik, pP_si, pS_si, pn_si, ps_si, pL_si, decide_true, ofNat_nI, pe_srI, pe_srN, pe_srS, pe_srP, not_true_eq_false, not_false_eq_true, true_and, and_true, and_self, false_and, and_false, nI_m1, nI_ms, Nat.add_sub_cancel, pl_0, pl_1, pl_2, pl_3, pl_4, pl_5, pl_6, pl_7, pl_8, pl_9, pl_10, pl_11, pl_12, pl_13, pl_14, pl_15, pl_16, pl_17, pl_18, pl_19, pl_20, pl_21, pl_22, pl_23, pl_24, pl_25, pl_26, pl_27, pl_28, pl_29, pl_30, pl_31, pl_32, pl_34, pl_36, pl_37, pl_40, pl_41, pl_42, pl_43, pl_45, pl_47, pl_48, pl_50, pl_57, pl_59, pl_60, pl_61, pl_62, pl_64, pl_70, pl_91, pl_93, pl_97, pl_98, pl_99, pl_100, pl_106, pl_122, pl_128, pl_136, pl_142, pl_165, pl_168, pl_170, pl_171, pl_173, pl_175, pl_187, pl_188, pl_189, pl_190, pl_206, pl_211, pl_219, pl_229, pl_255, pl_260, pl_400, pl_500, pl_512, pl_900, pl_999, pl_1000, pl_1001, pl_1005, pl_1020, pl_1023, pl_1024, pl_1103, pl_2000, pl_2040, pl_2176, pl_5660, pl_9999, pl_12345, pl_1000000, pl_1000003, pl_100000000, pl_1000000000, pz_0, pz_1, pz_t, thr_0, r1, j2]

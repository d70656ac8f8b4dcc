/-! ===== saying: the class's search, the whole ===== -/
section SYD
variable {nW n : Nat} {L : Nat → Nat} {mg sy : Nat → Int32} {op : Nat → Bool} {sh : Nat → Nat → Nat} {b : Nat → Int}
theorem cp_5 (g : am_G) : am_cp g 43 44 0 0 5 = cpo g 43 44 0 5 := cp_cpo g 43 44 0 5
theorem noteS {c : Nat → Nat} {wt : (Nat → Nat) → Nat} {fit : (Nat → Nat) → Bool} {V : (Nat → Nat) → Nat} {st : StS} {g : am_G} (hn : n ≤ 5) (h43 : ∀ j, j < n → am_I g 43 j = nI (c j)) (hf : fit c = true) (hV : V c ≤ 45) (hS : SyC n g st) : ∃ g', fX3_note (nI (V c)) (nI (wt c)) g = some ((), g') ∧ SyC n g' (wgh fit V wt st c) ∧ (g'.2 = g.2 ∧ ∀ a j, a ≠ 39 → a ≠ 44 → am_I g' a j = am_I g a j) := by
  obtain ⟨s1, s2, s3, s4⟩ := hS
  unfold fX3_note
  rw [pu_jn]
  dsimp only
  rw [s1]
  by_cases h1 : V c < st.1
  · have e : wgh fit V wt st c = (V c, wt c, c) := by unfold wgh; rw [if_pos ⟨hf, by omega⟩, if_pos h1]
    rw [e, if_neg (show ¬ nI st.1 ≤ nI (V c) from fun z => absurd ((nI_leI (by omega) (by omega)).mp z) (by omega)), pu_let, pu_let, pu_gd (show am_co (0 : Int32) (0 : Int32) (5 : Int32) 5 5 = true by decide), pu_let, show (0 : Int32).toNatClampNeg = 0 from rfl, show (5 : Int32).toNatClampNeg = 5 from rfl, cp_5]
    have e7 : am_I (cpo (am_si (am_si g 39 7 (nI (V c))) 39 8 0) 43 44 0 5) 39 7 = nI (V c) := by
      unfold cpo
      rw [pI_sr_ne _ _ (by decide), pe_ik (by decide), pe_ieq]
    have e8 : am_I (cpo (am_si (am_si g 39 7 (nI (V c))) 39 8 0) 43 44 0 5) 39 8 = nI 0 := by
      unfold cpo
      rw [pI_sr_ne _ _ (by decide), pe_ieq]
      rfl
    rw [e7, if_pos rfl, pu_let, e8, nI_add, Nat.zero_add]
    refine ⟨_, rfl, ⟨?_, ?_, Or.inr fun j hj => ?_, ?_⟩, rfl, fun a j h2 h3 => ?_⟩
    · rw [pe_ik (by decide)]; exact e7
    · rw [pe_ieq]
    · rw [pe_ine (by decide)]
      unfold cpo
      rw [pI_sr_row, if_pos (by omega), pe_ine (by decide), pe_ine (by decide), Nat.sub_zero]
      exact h43 j hj
    · show V c ≤ 1000000000
      omega
    · rw [pe_ine h2]
      unfold cpo
      rw [pI_sr_ne _ _ h3, pe_ine h2, pe_ine h2]
  · rw [if_pos (show nI st.1 ≤ nI (V c) from (nI_leI (by omega) (by omega)).mpr (by omega))]
    by_cases h2 : V c = st.1
    · have e : wgh fit V wt st c = (st.1, st.2.1 + wt c, st.2.2) := by unfold wgh; rw [if_pos ⟨hf, by omega⟩, if_neg h1]
      rw [e, h2, if_pos rfl, pu_let, s2, nI_add]
      refine ⟨_, rfl, ⟨by rw [pe_ik (by decide)]; exact s1, by rw [pe_ieq], ?_, s4⟩, rfl, fun a j h2 _ => by rw [pe_ine h2]⟩
      rcases s3 with z | z
      · exact Or.inl z
      · exact Or.inr fun j hj => by rw [pe_ine (by decide)]; exact z j hj
    · have e : wgh fit V wt st c = st := by unfold wgh; rw [if_neg (fun z => by omega)]
      rw [e, if_neg (fun z => h2 ((nn_eq (by omega) (by omega)).mp z))]
      exact ⟨g, rfl, ⟨s1, s2, s3, s4⟩, rfl, fun _ _ _ _ => rfl⟩
theorem SyC.fr {g g' : am_G} {st : StS} (h : SyC n g st) (h39 : am_I g' 39 = am_I g 39) (h44 : am_I g' 44 = am_I g 44) : SyC n g' st := by
  obtain ⟨s1, s2, s3, s4⟩ := h
  exact ⟨by rw [h39]; exact s1, by rw [h39]; exact s2, by rw [h44]; exact s3, s4⟩
/-- rows behind a prefix: no shorter, no lighter -/
theorem rwL_ge {A : Nat → (Nat → Nat) → Nat → Bool} {d k : Nat} {c e : Nat → Nat} (f : Nat → Nat) (h : e ∈ rwL nW A d k c) : smW k (fun j => f (c j)) ≤ smW (k + d) (fun j => f (e j)) := by
  rw [smW_cg (g := fun j => f (e j)) (fun j hj => by rw [(rwL_pre h).1 j hj])]
  exact smW_mn (by omega)
theorem num_le {k : Nat} {c : Nat → Nat} (hk : k ≤ 5) (h : isR nW op mg sy k c) : num nW op mg sy k (cnt k c) ≤ 5 ^ k := by
  have h1 := num_fct k c h
  have h2 := aP_le (sy := sy) hk
  have h3 := fct_pos (cnt k c) nW
  rw [← h1] at h2
  exact Nat.le_trans (Nat.le_mul_of_pos_right _ h3) h2
/-- what is to hold at level k -/
def Lv (nW n : Nat) (L : Nat → Nat) (mg sy : Nat → Int32) (op : Nat → Bool) (sh : Nat → Nat → Nat) (b : Nat → Int) (k : Nat) (c : Nat → Nat) (g : am_G) : Prop := CDs nW n L mg sy op sh g ∧ (∀ j, j < k → am_I g 43 j = nI (c j)) ∧ RmC sh b k c g
theorem Lv.fy {k : Nat} {c : Nat → Nat} {g g' : am_G} (h : Lv nW n L mg sy op sh b k c g) (f : FY k g g') : Lv nW n L mg sy op sh b k c g' := by
  obtain ⟨h1, h2, h3⟩ := h
  exact ⟨h1.fy f, fun j hj => by rw [f.2 43 j (by decide) (by decide) (by omega) (by omega)]; exact h2 j hj, fun s hs => by rw [f.2 42 _ (by decide) (by decide) (by omega) (by omega)]; exact h3 s hs⟩
theorem srchL {k d : Nat} {c : Nat → Nat} {rec : Int32 → Int32 → Int32 → am_G → Option (Unit × am_G)} (hn : n ≤ 5) (hW : nW ≤ 16) (hL : ∀ w, w < nW → L w ≤ 9) (hsh : ∀ w, w < nW → ∀ s, s < 6 → sh w s ≤ 999) (hb : ∀ s, s < 6 → -1000000000 ≤ b s ∧ b s ≤ 1000000000) (hkd : k + (d + 1) = n) (hR : isR nW op mg sy k c) (hO : isO sy k c)
    (hrec : ∀ (c' : Nat → Nat) (st : StS) (g : am_G), isR nW op mg sy (k + 1) c' → isO sy (k + 1) c' → okK sh b (k + 1) c' → Lv nW n L mg sy op sh b (k + 1) c' g → SyC n g st → ∃ g', rec (nI (k + 1)) (nI (lenS L (k + 1) c')) (nI (num nW op mg sy (k + 1) (cnt (k + 1) c'))) g = some ((), g') ∧ SyC n g' (fld (fitS sh b n) (lenS L n) (fun c => num nW op mg sy n (cnt n c)) st (rwL nW (soW op mg sy) d (k + 1) c')) ∧ FY (k + 1) g g') :
    ∀ (m w fu : Nat) (st : StS) (g : am_G), w + m = nW → m < fu → frmS sy c k k ≤ w → Lv nW n L mg sy op sh b k c g → SyC n g st → ∃ g', fX3_search_L81 rec (nI k) (nI (lenS L k c)) (nI (num nW op mg sy k (cnt k c))) (sy k) (nI (lik sy k k)) fu (nI w) g = some ((), g') ∧ SyC n g' (fld (fitS sh b n) (lenS L n) (fun c => num nW op mg sy n (cnt n c)) st (rwP (soW op mg sy) (fun w => rwL nW (soW op mg sy) d (k + 1) (cup c k w)) k c m w)) ∧ FY k g g'
  | 0, w, fu, st, g, hm, hfu, hw, hLv, hS => by
    obtain ⟨fu, rfl⟩ : ∃ m', fu = m' + 1 := ⟨fu - 1, by omega⟩
    refine ⟨g, ?_, hS, FY.rf k g⟩
    rw [fX3_search_L81, hLv.1.2.1, if_pos ((nI_leI (by omega) (by omega)).mpr (by omega))]
  | m + 1, w, fu, st, g, hm, hfu, hw, hLv, hS => by
    obtain ⟨fu, rfl⟩ : ∃ m', fu = m' + 1 := ⟨fu - 1, by omega⟩
    have hwW : w < nW := by omega
    obtain ⟨e13, e15, e40, e41⟩ := hLv.1.2.2.2 w hwW
    have hlen : ∀ {k' c'}, k' ≤ 5 → (∀ j, j < k' → c' j < nW) → lenS L k' c' ≤ 45 := fun {k' c'} h1 h2 => by
      have := smW_le (f := fun j => L (c' j)) (M := 9) (k := k') fun j hj => hL _ (h2 j hj)
      show smW k' (fun j => L (c' j)) ≤ 45
      omega
    have hcW : ∀ j, j < k → c j < nW := fun j hj => (hR j hj).1
    have hl1 := hlen (k' := k) (c' := c) (by omega) hcW
    have hLw := hL w hwW
    have step : ∃ g1, fX3_search_L81 rec (nI k) (nI (lenS L k c)) (nI (num nW op mg sy k (cnt k c))) (sy k) (nI (lik sy k k)) (fu + 1) (nI w) g = fX3_search_L81 rec (nI k) (nI (lenS L k c)) (nI (num nW op mg sy k (cnt k c))) (sy k) (nI (lik sy k k)) fu (nI (w + 1)) g1 ∧ SyC n g1 (fld (fitS sh b n) (lenS L n) (fun c => num nW op mg sy n (cnt n c)) st (if soW op mg sy k c w = true then rwL nW (soW op mg sy) d (k + 1) (cup c k w) else [])) ∧ FY k g g1 := by
      have ew : nI w + (1 : Int32) = nI (w + 1) := nI_add w 1
      rw [fX3_search_L81, hLv.1.2.1, if_neg (fun z => absurd ((nI_leI (by omega) (by omega)).mp z) (by omega)), pe_gd (show w < 16 by omega) (by decide), pu_let, pe_gd (show w < 16 by omega) (by decide), pu_jn]
      dsimp only
      rw [pe_clamp (show w < 2147483648 by omega), e13, e40, e15, nI_add]
      by_cases ho : op w = true
      · rw [if_pos ho, if_neg (show ¬ nI 1 = (0 : Int32) by decide), pe_gd (show w < 16 by omega) (by decide)]
        by_cases hmg : mg w = sy k
        · rw [if_pos hmg, hS.1]
          have hso : soW op mg sy k c w = true := soW_iff.mpr ⟨⟨ho, hmg⟩, fun j hj e => Nat.le_trans (frmS_le hO k (Nat.le_refl _) j hj e) hw⟩
          have hR' : isR nW op mg sy (k + 1) (cup c k w) := hR.cup ⟨hwW, ho, hmg⟩
          have elen : lenS L (k + 1) (cup c k w) = lenS L k c + L w := smW_cup L c k w
          rw [if_pos hso]
          by_cases hlt : st.1 < lenS L k c + L w
          · rw [if_pos (nI_lt hlt (by omega)), pu_let, ew]
            refine ⟨g, rfl, ?_, FY.rf k g⟩
            rw [fld_no]
            · exact hS
            · rintro e he ⟨-, h2⟩
              have := rwL_ge L he
              rw [show k + 1 + d = n by omega] at this
              have h3 : lenS L (k + 1) (cup c k w) ≤ lenS L n e := this
              omega
          · rw [if_neg (fun z => hlt ((nI_ltI (by have := hS.2.2.2; omega) (by omega)).mp z))]
            unfold fX3_fits
            have hfit := fitsL (c := c) (k := k) (w := w) (by omega) hwW hW hsh hb hcW 6 0 am_fu g (by decide) (by have : am_fu = 1048576 := rfl; omega) hLv.1 hLv.2.2 (fun t ht => absurd ht (by omega))
            rcases hfit with ⟨g1, x1, x2, x3, x4⟩ | ⟨g1, x1, x2, x3⟩
            · rw [show fX3_fits_L2 (nI k) (nI w) am_fu (0 : Int32) g = some (nI 1, g1) from x1, pu_bd, if_neg (show ¬ nI 1 = (0 : Int32) by decide), pe_gd (show k < 5 by omega) (by decide), pu_let, pe_clamp (show k < 2147483648 by omega)]
              have f1 : FY k g (am_si g1 43 k (nI w)) := ⟨x2.1, fun a j h1 h2 h3 h4 => by rw [pI_si, if_neg (fun z => h4 ⟨z.1, by omega⟩)]; exact x2.2 a j h3⟩
              have h43 : ∀ j, j < k + 1 → am_I (am_si g1 43 k (nI w)) 43 j = nI (cup c k w j) := fun j hj => by
                by_cases e : j = k
                · subst e; rw [pe_ieq, cup_eq]
                · rw [pe_ik e, cup_ne e, x2.2 43 j (by omega)]; exact hLv.2.1 j (by omega)
              have tim := timL (k := k) (w := w) (c := cup c k w) (g := am_si g1 43 k (nI w)) (by omega) (by omega) (fun j hj => by rw [cup_ne (by omega)]; have := hcW j hj; omega) (fun j hj => h43 j (by omega)) k 0 am_fu (by omega) (by have : am_fu = 1048576 := rfl; omega)
              unfold fX3_timesChosen
              rw [show fX3_timesChosen_L5 (nI k) (nI w) am_fu (1 : Int32) (0 : Int32) (am_si g1 43 k (nI w)) = some (nI (cnt k (cup c k w) w + 1), am_si g1 43 k (nI w)) from tim, pu_bd]
              have ecn : cnt k (cup c k w) = cnt k c := cnt_cg fun j hj => cup_ne (by omega)
              have hcl : cnt k (cup c k w) w ≤ k := by
                have : ∀ k', cnt k' (cup c k w) w ≤ k' := fun k' => by
                  induction k' with
                  | zero => exact Nat.le_refl _
                  | succ k' ih => rw [cnt]; split <;> omega
                exact this k
              have hnum := num_le (k := k) (by omega) hR
              have h5 : 5 ^ k ≤ 5 ^ 5 := Nat.pow_le_pow_right (by decide) (by omega)
              have hlk := lik_le (sy := sy) (k := k) k
              have hmul : num nW op mg sy k (cnt k c) * (lik sy k k + 1) ≤ 3125 * 5 := Nat.mul_le_mul (by have : (5 : Nat) ^ 5 = 3125 := rfl; omega) (by omega)
              have est : nI (num nW op mg sy k (cnt k c)) * (nI (lik sy k k) + (1 : Int32)) / nI (cnt k (cup c k w) w + 1) = nI (num nW op mg sy (k + 1) (cnt (k + 1) (cup c k w))) := by
                rw [show nI (lik sy k k) + (1 : Int32) = nI (lik sy k k + 1) from nI_add _ 1, nn_mul, pdv (by omega) (by omega) (by omega)]
                have := num_step hR'
                rw [ecn, cup_eq] at this
                rw [ecn, this]
              rw [pu_gd (show (!decide (nI (cnt k (cup c k w) w + 1) = 0)) = true from by
                rw [decide_eq_false (show ¬ nI (cnt k (cup c k w) w + 1) = (0 : Int32) from fun z => absurd ((nn_eq (b := 0) (by omega) (by decide)).mp z) (by omega))]; rfl), est, show nI k + (1 : Int32) = nI (k + 1) from nI_add k 1, ← elen]
              have hO' : isO sy (k + 1) (cup c k w) := fun i j q5 q6 q7 => by
                rw [cup_ne (show i ≠ k by omega)]
                by_cases e : j = k
                · subst e; rw [cup_eq]; exact (soW_iff.mp hso).2 i q5 q7
                · rw [cup_ne e]; exact hO i j q5 (by omega) q7
              have hLv1 := hLv.fy f1
              obtain ⟨g2, y1, y2, y3⟩ := hrec (cup c k w) st (am_si g1 43 k (nI w)) hR' hO' x4 ⟨hLv1.1, h43, fun s hs => by rw [pe_ine (by decide)]; exact x3 s hs⟩ (hS.fr (by rw [pI_si_ne _ _ _ (by decide)]; funext j; exact x2.2 39 j (by omega)) (by rw [pI_si_ne _ _ _ (by decide)]; funext j; exact x2.2 44 j (by omega)))
              rw [y1, pu_bd, pu_let, ew]
              exact ⟨g2, rfl, y2, f1.tr y3.mo⟩
            · rw [show fX3_fits_L2 (nI k) (nI w) am_fu (0 : Int32) g = some (nI 0, g1) from x1, pu_bd, if_pos (show nI 0 = (0 : Int32) from rfl), pu_let, ew]
              refine ⟨g1, rfl, ?_, ⟨x2.1, fun a j _ _ h3 _ => x2.2 a j h3⟩⟩
              rw [fld_no]
              · exact hS.fr (funext fun j => x2.2 39 j (by omega)) (funext fun j => x2.2 44 j (by omega))
              · rintro e he ⟨h1, -⟩
                unfold fitS at h1
                rcases of_decide_eq_true h1 with z | z
                · omega
                · refine x3 fun s hs => ?_
                  have h4 := rwL_ge (fun x => sh x s) he
                  rw [show k + 1 + d = n by omega] at h4
                  have h5 := z s hs
                  have h6 : ((smW (k + 1) (fun j => sh (cup c k w j) s) : Nat) : Int) ≤ ((smW n (fun j => sh (e j) s) : Nat) : Int) := Int.ofNat_le.mpr h4
                  omega
        · rw [if_neg hmg, pu_let, ew, if_neg (fun z => hmg (soW_iff.mp z).1.2)]
          exact ⟨g, rfl, hS, FY.rf k g⟩
      · rw [if_neg ho, if_pos (show nI 0 = (0 : Int32) from rfl), pu_let, ew, if_neg (fun z => ho (soW_iff.mp z).1.1)]
        exact ⟨g, rfl, hS, FY.rf k g⟩
    obtain ⟨g1, e1, s1, f1⟩ := step
    obtain ⟨g2, e2, s2, f2⟩ := srchL hn hW hL hsh hb hkd hR hO hrec m (w + 1) fu _ g1 (by omega) (by omega) (by omega) (hLv.fy f1) s1
    refine ⟨g2, e1.trans e2, ?_, f1.tr f2⟩
    rw [rwP, fld_app]
    exact s2
theorem rwP_skip {A : Nat → (Nat → Nat) → Nat → Bool} {R : Nat → List (Nat → Nat)} {k : Nat} {c : Nat → Nat} : ∀ (w0 w m : Nat), (∀ x, w ≤ x → x < w + w0 → ¬ A k c x = true) → rwP A R k c (w0 + m) w = rwP A R k c m (w + w0)
  | 0, w, m, _ => by rw [Nat.zero_add, Nat.add_zero]
  | w0 + 1, w, m, h => by
    rw [show w0 + 1 + m = w0 + m + 1 by omega, rwP, if_neg (h w (Nat.le_refl _) (by omega)), List.nil_append, rwP_skip w0 (w + 1) m (fun x h1 h2 => h x (by omega) (by omega)), show w + 1 + w0 = w + (w0 + 1) by omega]
theorem srch (hn : n ≤ 5) (hW : nW ≤ 16) (hL : ∀ w, w < nW → L w ≤ 9) (hsh : ∀ w, w < nW → ∀ s, s < 6 → sh w s ≤ 999) (hb : ∀ s, s < 6 → -1000000000 ≤ b s ∧ b s ≤ 1000000000) : ∀ (d k m : Nat) (c : Nat → Nat) (st : StS) (g : am_G), k + d = n → d < m → isR nW op mg sy k c → isO sy k c → (k = 0 ∨ okK sh b k c) → Lv nW n L mg sy op sh b k c g → SyC n g st → ∃ g', fX3_search m (nI k) (nI (lenS L k c)) (nI (num nW op mg sy k (cnt k c))) g = some ((), g') ∧ SyC n g' (fld (fitS sh b n) (lenS L n) (fun c => num nW op mg sy n (cnt n c)) st (rwL nW (soW op mg sy) d k c)) ∧ FY k g g'
  | 0, k, m, c, st, g, hd, hm, hR, hO, hok, hLv, hS => by
    obtain ⟨m, rfl⟩ : ∃ m', m = m' + 1 := ⟨m - 1, by omega⟩
    obtain rfl : k = n := by omega
    rw [fX3_search, bX3_search, hLv.1.1, if_neg (fun z => absurd ((nI_ltI (by omega) (by omega)).mp z) (by omega))]
    have hl : lenS L k c ≤ 45 := by
      have := smW_le (f := fun j => L (c j)) (M := 9) (k := k) fun j hj => hL _ (hR j hj).1
      show smW k (fun j => L (c j)) ≤ 45
      omega
    obtain ⟨g', e1, e2, e3⟩ := noteS (c := c) (wt := fun c => num nW op mg sy k (cnt k c)) (fit := fitS sh b k) (V := lenS L k) (st := st) (g := g) hn hLv.2.1 (decide_eq_true hok) hl hS
    refine ⟨g', ?_, e2, ⟨e3.1, fun a j h1 h2 _ _ => e3.2 a j h1 h2⟩⟩
    rw [show fX3_note (nI (lenS L k c)) (nI (num nW op mg sy k (cnt k c))) g = some ((), g') from e1, pu_bd]
  | d + 1, k, m, c, st, g, hd, hm, hR, hO, hok, hLv, hS => by
    obtain ⟨m, rfl⟩ : ∃ m', m = m' + 1 := ⟨m - 1, by omega⟩
    have hkn : k < n := by omega
    have hfu : am_fu = 1048576 := rfl
    have hcW : ∀ j, j < k → c j < nW := fun j hj => (hR j hj).1
    have hfr : frmS sy c k k ≤ nW := by
      rcases frmS_mem (sy := sy) (k := k) (c := c) k with z | ⟨j, h1, -, h3⟩
      · omega
      · have := hcW j h1; omega
    have hl := srchL (rec := fX3_search m) hn hW hL hsh hb hd hR hO (fun c' st' g' h1 h2 h3 h4 h5 => srch hn hW hL hsh hb d (k + 1) m c' st' g' (by omega) (by omega) h1 h2 (Or.inr h3) h4 h5) (nW - frmS sy c k k) (frmS sy c k k) am_fu st g (by omega) (by omega) (Nat.le_refl _) hLv hS
    obtain ⟨g', e1, e2, e3⟩ := hl
    have hlk := likL (rec := fX3_search m) (K := fun (x22 : Int32) (x23 : Int32) (g24 : am_G) => fX3_search_L81 (fX3_search m) (nI k) (nI (lenS L k c)) (nI (num nW op mg sy k (cnt k c))) (sy k) x22 am_fu x23 g24) (a2 := nI (lenS L k c)) (a3 := nI (num nW op mg sy k (cnt k c))) hkn hn hLv.1.2.2.1 hLv.2.1 k 0 am_fu (by omega) (by omega)
    refine ⟨g', ?_, ?_, e3⟩
    · rw [fX3_search, bX3_search, hLv.1.1, if_pos (nI_lt hkn (by omega)), pe_gd (show k < 5 by omega) (by decide), pu_let, pe_clamp (show k < 2147483648 by omega), hLv.1.2.2.1 k hkn]
      exact hlk.trans e1
    · rw [rwL]
      have hsk := rwP_skip (A := soW op mg sy) (R := fun w => rwL nW (soW op mg sy) d (k + 1) (cup c k w)) (k := k) (c := c) (frmS sy c k k) 0 (nW - frmS sy c k k) (fun x _ h2 h3 => by
        rcases frmS_mem (sy := sy) (k := k) (c := c) k with z | ⟨j, j1, j2, j3⟩
        · omega
        · have := (soW_iff.mp h3).2 j j1 j2
          omega)
      rw [show frmS sy c k k + (nW - frmS sy c k k) = nW by omega, Nat.zero_add] at hsk
      rw [hsk]
      exact e2
end SYD

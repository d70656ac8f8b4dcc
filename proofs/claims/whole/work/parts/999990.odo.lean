/-! ===== saying: the reference's rows one after the other ===== -/
def Tmo (nW : Nat) : Nat → Nat → Nat
  | 0, m => m + 1
  | d + 1, m => m * (1 + Tmo nW d nW) + 1
theorem Tmo_le {nW : Nat} (hW : nW ≤ 16) : ∀ (d m : Nat), m ≤ 16 → Tmo nW d m + 1 ≤ 18 ^ (d + 1)
  | 0, m, h => by rw [Tmo]; show m + 1 + 1 ≤ 18; omega
  | d + 1, m, h => by
    have ih := Tmo_le hW d nW hW
    rw [Tmo, Nat.pow_succ]
    have h1 : m * (1 + Tmo nW d nW) ≤ 16 * 18 ^ (d + 1) := Nat.mul_le_mul h (by omega)
    have h2 : 0 < 18 ^ (d + 1) := Nat.pow_pos (by decide)
    omega
section ODO
variable {nW n : Nat} {L : Nat → Nat} {mg sy : Nat → Int32} {op : Nat → Bool} {sh : Nat → Nat → Nat} {sn st hd : Nat → Nat}
theorem SyR.fr {g g' : am_G} {S : StS} (h : SyR n g S) (h0 : ∀ k, am_I g' 0 k = am_I g 0 k) (h26 : am_I g' 26 = am_I g 26) : SyR n g' S := by
  obtain ⟨s1, s2, s3, s4⟩ := h
  exact ⟨by rw [h0]; exact s1, by rw [h0]; exact s2, by rw [h26]; exact s3, s4⟩
theorem odo (hn : n ≤ 5) (hW : nW ≤ 16) (hL : ∀ w, w < nW → L w ≤ 9) (hsh : ∀ w, w < nW → ∀ s, s < 6 → sh w s ≤ 999) (hbd : ∀ s, s < 6 → sn s ≤ 9999 ∧ st s ≤ 900000000 ∧ hd s ≤ 9999) : ∀ (d m w k f : Nat) (c : Nat → Nat) (S : StS) (g : am_G), k + d + 1 = n → w + m = nW → RDs nW n L mg sy op sh sn st hd g → isR nW op mg sy k c → (∀ j, j < k → am_I g 25 j = nI (c j)) → am_I g 25 k + (1 : Int32) = nI w → SyR n g S → Tmo nW d m ≤ f → ∃ f' g', f ≤ f' + Tmo nW d m ∧ fX12_findSaying_L121 (nI n) f (nI k) g = fX12_findSaying_L121 (nI n) f' (nI k + (-1 : Int32)) g' ∧ SyR n g' (fld (fitS sh (rmB sn st hd) n) (lenS L n) (fun _ => 1) S (rwP (alW op mg sy) (fun w => rwL nW (alW op mg sy) d (k + 1) (cup c k w)) k c m w)) ∧ FZ g g' ∧ ∀ j, j < k → am_I g' 25 j = am_I g 25 j := by
  intro d
  induction d with
  | zero =>
    intro m
    induction m with
    | zero =>
      intro w k f c S g hk hw hD hR h25 hwk hS hf
      rw [Tmo] at hf
      obtain ⟨f, rfl⟩ : ∃ f', f = f' + 1 := ⟨f - 1, by omega⟩
      obtain rfl : w = nW := by omega
      refine ⟨f, am_si g 25 k (nI w), by rw [Tmo]; omega, ?_, hS.fr (fun j => pe_ine (by decide)) (pI_si_ne _ _ _ (by decide)), (FZ.rf g).s25 k _, fun j hj => pe_ik (by omega)⟩
      rw [fX12_findSaying_L121, if_neg (show ¬ nI k < (0 : Int32) from fun z => absurd ((nI_ltI (b := 0) (by omega) (by decide)).mp z) (by omega)), pe_gd (show k < 5 by omega) (by decide), pe_gd (show k < 5 by omega) (by decide), pu_let, pe_gd (show k < 5 by omega) (by decide), pu_let, pe_clamp (show k < 2147483648 by omega), hwk, pe_ieq, pu_gd (show am_in (0 : Int32) 5660 = true from rfl), pu_jn]
      dsimp only
      rw [show (0 : Int32).toNatClampNeg = 0 from rfl, pe_ine (show (2 : Nat) ≠ 25 by decide), hD.1, if_pos rfl, pu_let]
    | succ m ihm =>
      intro w k f c S g hk hw hD hR h25 hwk hS hf
      rw [Tmo] at hf
      obtain ⟨f, rfl⟩ : ∃ f', f = f' + 1 := ⟨f - 1, by omega⟩
      have hwW : w < nW := by omega
      have fz : FZ g (am_si g 25 k (nI w)) := (FZ.rf g).s25 k _
      have hD1 := hD.fz fz
      have hS1 : SyR n (am_si g 25 k (nI w)) S := hS.fr (fun j => pe_ine (by decide)) (pI_si_ne _ _ _ (by decide))
      obtain ⟨w1, w2, w3, w4⟩ := hD1.2.2.2.1 w hwW
      have step : ∃ g1, fX12_findSaying_L121 (nI n) (f + 1) (nI k) g = fX12_findSaying_L121 (nI n) f (nI k) g1 ∧ SyR n g1 (fld (fitS sh (rmB sn st hd) n) (lenS L n) (fun _ => 1) S (if alW op mg sy k c w = true then rwL nW (alW op mg sy) 0 (k + 1) (cup c k w) else [])) ∧ FZ g g1 ∧ (∀ j, j < k → am_I g1 25 j = am_I g 25 j) ∧ am_I g1 25 k = nI w := by
        rw [fX12_findSaying_L121, if_neg (show ¬ nI k < (0 : Int32) from fun z => absurd ((nI_ltI (b := 0) (by omega) (by decide)).mp z) (by omega)), pe_gd (show k < 5 by omega) (by decide), pe_gd (show k < 5 by omega) (by decide), pu_let, pe_gd (show k < 5 by omega) (by decide), pu_let, pe_clamp (show k < 2147483648 by omega), hwk, pe_ieq, pu_gd (show am_in (0 : Int32) 5660 = true from rfl), pu_jn]
        dsimp only
        rw [show (0 : Int32).toNatClampNeg = 0 from rfl, hD1.1, if_neg (fun z => absurd ((nn_eq (by omega) (by omega)).mp z) (by omega)), pe_gd (show w < 16 by omega) (by decide), pe_clamp (show w < 2147483648 by omega), w3]
        by_cases ho : op w = true
        · rw [if_pos ho, if_neg (show ¬ nI 1 = (0 : Int32) by decide), show (2 : Int32) = nI 2 from rfl, q12_ofWord (show w < 16 by omega) (by decide), pu_bd, w2, show (206 : Int32) + nI k = nI (206 + k) from nI_add 206 k, pe_gd (show 206 + k < 5660 by omega) (by decide), pe_clamp (show 206 + k < 2147483648 by omega), hD1.2.2.1 k (by omega)]
          by_cases hmg : mg w = sy k
          · rw [if_pos hmg, if_pos (show nI k = nI n - (1 : Int32) by rw [show n = k + 1 by omega]; exact (nI_ms k).symm), if_pos (alW_iff.mpr ⟨ho, hmg⟩)]
            have hR' : isR nW op mg sy (k + 1) (cup c k w) := hR.cup ⟨hwW, ho, hmg⟩
            have hkn : k + 1 = n := by omega
            obtain ⟨g1, x1, x2, x3, x4⟩ := wghR (c := cup c k w) (g := am_si g 25 k (nI w)) hn hW hL hsh hbd hD1 (fun j hj => by
              by_cases e : j = k
              · subst e; rw [pe_ieq, cup_eq]
              · rw [pe_ik e, cup_ne e]; exact h25 j (by omega)) (fun j hj => (hR' j (by omega)).1) hS1
            rw [x1, pu_bd]
            exact ⟨g1, rfl, x2, fz.tr x3, fun j hj => by rw [x4, pe_ik (by omega)], by rw [x4, pe_ieq]⟩
          · rw [if_neg hmg, if_neg (fun z => hmg (alW_iff.mp z).2)]
            exact ⟨_, rfl, hS1, fz, fun j hj => pe_ik (by omega), pe_ieq _ _ _ _⟩
        · rw [if_neg ho, if_pos (show nI 0 = (0 : Int32) from rfl), if_neg (fun z => ho (alW_iff.mp z).1)]
          exact ⟨_, rfl, hS1, fz, fun j hj => pe_ik (by omega), pe_ieq _ _ _ _⟩
      obtain ⟨g1, e1, s1, f1, p1, q1⟩ := step
      obtain ⟨f', g2, r1, r2, r3, r4, r5⟩ := ihm (w + 1) k f c _ g1 hk (by omega) (hD.fz f1) hR (fun j hj => by rw [p1 j hj]; exact h25 j hj) (by rw [q1]; exact nI_add w 1) s1 (by rw [Tmo]; omega)
      rw [Tmo] at r1
      refine ⟨f', g2, by rw [Tmo]; omega, e1.trans r2, ?_, f1.tr r4, fun j hj => (r5 j hj).trans (p1 j hj)⟩
      rw [rwP, fld_app]
      exact r3
  | succ d ihd =>
    intro m
    induction m with
    | zero =>
      intro w k f c S g hk hw hD hR h25 hwk hS hf
      rw [Tmo] at hf
      obtain ⟨f, rfl⟩ : ∃ f', f = f' + 1 := ⟨f - 1, by omega⟩
      obtain rfl : w = nW := by omega
      refine ⟨f, am_si g 25 k (nI w), by rw [Tmo]; omega, ?_, hS.fr (fun j => pe_ine (by decide)) (pI_si_ne _ _ _ (by decide)), (FZ.rf g).s25 k _, fun j hj => pe_ik (by omega)⟩
      rw [fX12_findSaying_L121, if_neg (show ¬ nI k < (0 : Int32) from fun z => absurd ((nI_ltI (b := 0) (by omega) (by decide)).mp z) (by omega)), pe_gd (show k < 5 by omega) (by decide), pe_gd (show k < 5 by omega) (by decide), pu_let, pe_gd (show k < 5 by omega) (by decide), pu_let, pe_clamp (show k < 2147483648 by omega), hwk, pe_ieq, pu_gd (show am_in (0 : Int32) 5660 = true from rfl), pu_jn]
      dsimp only
      rw [show (0 : Int32).toNatClampNeg = 0 from rfl, pe_ine (show (2 : Nat) ≠ 25 by decide), hD.1, if_pos rfl, pu_let]
    | succ m ihm =>
      intro w k f c S g hk hw hD hR h25 hwk hS hf
      rw [Tmo, Nat.add_mul, Nat.one_mul] at hf
      obtain ⟨f, rfl⟩ : ∃ f', f = f' + 1 := ⟨f - 1, by omega⟩
      have hwW : w < nW := by omega
      have fz : FZ g (am_si g 25 k (nI w)) := (FZ.rf g).s25 k _
      have hD1 := hD.fz fz
      have hS1 : SyR n (am_si g 25 k (nI w)) S := hS.fr (fun j => pe_ine (by decide)) (pI_si_ne _ _ _ (by decide))
      obtain ⟨w1, w2, w3, w4⟩ := hD1.2.2.2.1 w hwW
      have step : ∃ f1 g1, f ≤ f1 + Tmo nW d nW ∧ fX12_findSaying_L121 (nI n) (f + 1) (nI k) g = fX12_findSaying_L121 (nI n) f1 (nI k) g1 ∧ SyR n g1 (fld (fitS sh (rmB sn st hd) n) (lenS L n) (fun _ => 1) S (if alW op mg sy k c w = true then rwL nW (alW op mg sy) (d + 1) (k + 1) (cup c k w) else [])) ∧ FZ g g1 ∧ (∀ j, j < k → am_I g1 25 j = am_I g 25 j) ∧ am_I g1 25 k = nI w := by
        rw [fX12_findSaying_L121, if_neg (show ¬ nI k < (0 : Int32) from fun z => absurd ((nI_ltI (b := 0) (by omega) (by decide)).mp z) (by omega)), pe_gd (show k < 5 by omega) (by decide), pe_gd (show k < 5 by omega) (by decide), pu_let, pe_gd (show k < 5 by omega) (by decide), pu_let, pe_clamp (show k < 2147483648 by omega), hwk, pe_ieq, pu_gd (show am_in (0 : Int32) 5660 = true from rfl), pu_jn]
        dsimp only
        rw [show (0 : Int32).toNatClampNeg = 0 from rfl, hD1.1, if_neg (fun z => absurd ((nn_eq (by omega) (by omega)).mp z) (by omega)), pe_gd (show w < 16 by omega) (by decide), pe_clamp (show w < 2147483648 by omega), w3]
        by_cases ho : op w = true
        · rw [if_pos ho, if_neg (show ¬ nI 1 = (0 : Int32) by decide), show (2 : Int32) = nI 2 from rfl, q12_ofWord (show w < 16 by omega) (by decide), pu_bd, w2, show (206 : Int32) + nI k = nI (206 + k) from nI_add 206 k, pe_gd (show 206 + k < 5660 by omega) (by decide), pe_clamp (show 206 + k < 2147483648 by omega), hD1.2.2.1 k (by omega)]
          by_cases hmg : mg w = sy k
          · rw [if_pos hmg, if_neg (show ¬ nI k = nI n - (1 : Int32) by
              obtain ⟨n', rfl⟩ : ∃ n', n = n' + 1 := ⟨n - 1, by omega⟩
              rw [show nI (n' + 1) - (1 : Int32) = nI n' from nI_ms n']
              exact fun z => absurd ((nn_eq (by omega) (by omega)).mp z) (by omega)), if_pos (alW_iff.mpr ⟨ho, hmg⟩), pu_let, show nI k + (1 : Int32) = nI (k + 1) from nI_add k 1, pe_gd (show k + 1 < 5 by omega) (by decide), pu_let, pe_clamp (show k + 1 < 2147483648 by omega)]
            have hR' : isR nW op mg sy (k + 1) (cup c k w) := hR.cup ⟨hwW, ho, hmg⟩
            have fz2 := fz.s25 (k + 1) (-1)
            obtain ⟨f', g1, r1, r2, r3, r4, r5⟩ := ihd nW 0 (k + 1) f (cup c k w) S (am_si (am_si g 25 k (nI w)) 25 (k + 1) (-1)) (by omega) (by omega) (hD.fz fz2) hR' (fun j hj => by
              rw [pe_ik (by omega)]
              by_cases e : j = k
              · subst e; rw [pe_ieq, cup_eq]
              · rw [pe_ik e, cup_ne e]; exact h25 j (by omega)) (by rw [pe_ieq]; rfl) (hS1.fr (fun j => pe_ine (by decide)) (pI_si_ne _ _ _ (by decide))) (by omega)
            refine ⟨f', g1, r1, ?_, r3, fz2.tr r4, fun j hj => by rw [r5 j (by omega), pe_ik (by omega), pe_ik (by omega)], by rw [r5 k (by omega), pe_ik (by omega), pe_ieq]⟩
            have ek : nI (k + 1) + (-1 : Int32) = nI k := by
              rw [← Int32.sub_eq_add_neg]
              exact nI_ms k
            rw [r2, ek]
          · rw [if_neg hmg, if_neg (fun z => hmg (alW_iff.mp z).2)]
            exact ⟨f, _, by omega, rfl, hS1, fz, fun j hj => pe_ik (by omega), pe_ieq _ _ _ _⟩
        · rw [if_neg ho, if_pos (show nI 0 = (0 : Int32) from rfl), if_neg (fun z => ho (alW_iff.mp z).1)]
          exact ⟨f, _, by omega, rfl, hS1, fz, fun j hj => pe_ik (by omega), pe_ieq _ _ _ _⟩
      obtain ⟨f1, g1, e0, e1, s1, fq, p1, q1⟩ := step
      obtain ⟨f', g2, r1, r2, r3, r4, r5⟩ := ihm (w + 1) k f1 c _ g1 hk (by omega) (hD.fz fq) hR (fun j hj => by rw [p1 j hj]; exact h25 j hj) (by rw [q1]; exact nI_add w 1) s1 (by rw [Tmo]; omega)
      rw [Tmo] at r1
      refine ⟨f', g2, by rw [Tmo, Nat.add_mul, Nat.one_mul]; omega, e1.trans r2, ?_, fq.tr r4, fun j hj => (r5 j hj).trans (p1 j hj)⟩
      rw [rwP, fld_app]
      exact r3
/-- all rows -/
theorem odoA {g : am_G} {S : StS} (hn : n ≤ 5) (hn0 : 0 < n) (hW : nW ≤ 16) (hL : ∀ w, w < nW → L w ≤ 9) (hsh : ∀ w, w < nW → ∀ s, s < 6 → sh w s ≤ 999) (hbd : ∀ s, s < 6 → sn s ≤ 9999 ∧ st s ≤ 900000000 ∧ hd s ≤ 9999) (hD : RDs nW n L mg sy op sh sn st hd g) (h25 : am_I g 25 0 = -1) (hS : SyR n g S) : ∃ g', fX12_findSaying_L121 (nI n) am_fv (nI 0) g = some ((), g') ∧ SyR n g' (fld (fitS sh (rmB sn st hd) n) (lenS L n) (fun _ => 1) S (rwL nW (alW op mg sy) n 0 (fun _ => 0))) ∧ FZ g g' := by
  obtain ⟨d, rfl⟩ : ∃ d, n = d + 1 := ⟨n - 1, by omega⟩
  have hT := Tmo_le hW d nW hW
  have h18 : 18 ^ (d + 1) ≤ 18 ^ 5 := Nat.pow_le_pow_right (by decide) hn
  have e18 : (18 : Nat) ^ 5 = 1889568 := rfl
  have hfv : am_fv = 2097152 := rfl
  obtain ⟨f', g', r1, r2, r3, r4, -⟩ := odo hn hW hL hsh hbd d nW 0 0 am_fv (fun _ => 0) S g (by omega) (by omega) hD (fun j hj => absurd hj (by omega)) (fun j hj => absurd hj (by omega)) (by rw [h25]; rfl) hS (by omega)
  obtain ⟨f, rfl⟩ : ∃ f, f' = f + 1 := ⟨f' - 1, by omega⟩
  refine ⟨g', ?_, ?_, r4⟩
  · rw [r2, fX12_findSaying_L121, if_pos (show nI 0 + (-1 : Int32) < 0 by decide)]
  · rw [rwL]
    exact r3
end ODO

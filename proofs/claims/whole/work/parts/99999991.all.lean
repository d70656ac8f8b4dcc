/-! ===== all thirty-nine methods, and the room ===== -/
theorem lw_q {t : Nat} {gc gr : am_G} (h : Rel t gc gr) {f g : am_G → Option (Int32 × am_G)} (hm : ∃ (v : Int32) (gc1 gr1 : am_G), f gc = some (v, gc1) ∧ g gr = some (v, gr1) ∧ Sm t gc gr gc1 gr1) : ∃ (v : Int32) (gc1 gr1 : am_G), f gc = some (v, gc1) ∧ g gr = some (v, gr1) ∧ Rel (t + 1) gc1 gr1 := by
  obtain ⟨v, gc1, gr1, e1, e2, s⟩ := hm
  exact ⟨v, gc1, gr1, e1, e2, Rel.quiet h s⟩
theorem lw_HH : lw_H Rel := by
  refine ⟨?_, ?_, ?_, ?_, ?_, ?_, ?_, ?_, ?_, ?_, ?_, ?_, ?_, ?_, ?_, ?_, ?_, ?_, ?_, ?_, ?_, ?_, ?_, ?_, ?_, ?_, ?_, ?_, ?_, ?_, ?_, ?_, ?_, ?_, ?_, ?_, ?_, ?_, ?_⟩
  · intro t gc gr a1 a2 a3 ht h
    exact lw_q h (f := fX11_put a1 a2 a3) (g := fX12_put a1 a2 a3) (m_put h.1 (Rel.inv h) a1 a2 a3)
  · intro t gc gr a1 a2 ht h
    exact lw_q h (f := fX11_of a1 a2) (g := fX12_of a1 a2) (m_of h.1 (Rel.inv h) a1 a2)
  · intro t gc gr a1 a2 a3 ht h
    exact lw_q h (f := fX11_word a1 a2 a3) (g := fX12_word a1 a2 a3) (m_word h.1 (Rel.inv h) a1 a2 a3)
  · intro t gc gr a1 a2 ht h
    exact lw_q h (f := fX11_at a1 a2) (g := fX12_at a1 a2) (m_at h.1 (Rel.inv h) a1 a2)
  · intro t gc gr a1 a2 ht h
    exact lw_q h (f := fX11_often a1 a2) (g := fX12_often a1 a2) (m_often h.1 (Rel.inv h) a1 a2)
  · intro t gc gr a1 a2 ht h
    exact lw_q h (f := fX11_terms a1 a2) (g := fX12_terms a1 a2) (m_terms h.1 (Rel.inv h) a1 a2)
  · intro t gc gr a1 a2 a3 a4 a5 ht h
    exact m_feed h a1 a2 a3 a4 a5
  · intro t gc gr a1 ht h
    exact lw_q h (f := fX11_end a1) (g := fX12_end a1) (m_end h.1 (Rel.inv h) a1)
  · intro t gc gr ht h
    exact m_row h
  · intro t gc gr ht h
    exact lw_q h (f := fX11_murmur) (g := fX12_murmur) (m_murmur h.1 (Rel.inv h))
  · intro t gc gr ht h
    exact m_law h
  · intro t gc gr ht h
    exact m_told ht h
  · intro t gc gr ht h
    exact lw_q h (f := fX11_fault) (g := fX12_fault) (m_fault h.1 (Rel.inv h))
  · intro t gc gr ht h
    exact lw_q h (f := fX11_stopped) (g := fX12_stopped) (m_stopped h.1 (Rel.inv h))
  · intro t gc gr a1 ht h
    exact lw_q h (f := fX11_force a1) (g := fX12_force a1) (m_force h.1 (Rel.inv h) a1)
  · intro t gc gr a1 a2 a3 a4 a5 ht h
    exact m_asks h a1 a2 a3 a4 a5
  · intro t gc gr a1 a2 ht h
    exact m_weather h a1 a2
  · intro t gc gr a1 a2 a3 a4 ht h
    exact m_say ht h a1 a2 a3 a4
  · intro t gc gr ht h
    exact m_dawn ht h
  · intro t gc gr ht h
    exact m_undo h
  · intro t gc gr a1 a2 a3 ht h
    exact m_share ht h a1 a2 a3
  · intro t gc gr a1 ht h
    exact lw_q h (f := fX11_mean a1) (g := fX12_mean a1) (m_mean h.1 (Rel.inv h) a1)
  · intro t gc gr ht h
    exact lw_q h (f := fX11_hush) (g := fX12_hush) (m_hush h.1 (Rel.inv h))
  · intro t gc gr a1 a2 a3 ht h
    exact m_saying ht h a1 a2 a3
  · intro t gc gr a1 a2 a3 ht h
    exact lw_q h (f := fX11_talk a1 a2 a3) (g := fX12_talk a1 a2 a3) (m_talk h.1 (Rel.inv h) a1 a2 a3)
  · intro t gc gr ht h
    exact lw_q h (f := fX11_cancel) (g := fX12_cancel) (m_cancel h.1 (Rel.inv h))
  · intro t gc gr a1 a2 ht h
    exact m_plan ht h a1 a2
  · intro t gc gr a1 a2 a3 ht h
    exact m_bring ht h a1 a2 a3
  · intro t gc gr a1 a2 a3 ht h
    exact m_threat ht h a1 a2 a3
  · intro t gc gr a1 a2 a3 ht h
    exact lw_q h (f := fX11_seen a1 a2 a3) (g := fX12_seen a1 a2 a3) (m_seen h.1 (Rel.inv h) a1 a2 a3)
  · intro t gc gr ht h
    exact lw_q h (f := fX11_forget) (g := fX12_forget) (m_forget h.1 (Rel.inv h))
  · intro t gc gr a1 a2 ht h
    exact m_holds h a1 a2
  · intro t gc gr ht h
    exact m_signs h
  · intro t gc gr a1 a2 ht h
    exact m_winter h a1 a2
  · intro t gc gr a1 a2 ht h
    exact m_drawn h a1 a2
  · intro t gc gr a1 ht h
    exact m_image h a1
  · intro t gc gr a1 ht h
    exact m_back h a1
  · intro t gc gr a1 ht h
    exact lw_q h (f := fX11_count a1) (g := fX12_count a1) (m_count h.1 (Rel.inv h) a1)
  · intro t gc gr ht h
    exact lw_q h (f := fX11_status) (g := fX12_status) (m_status h.1 (Rel.inv h))
theorem am_gc_s : am_s am_gc ≤ 3000000 := by decide +kernel
theorem am_gr_s : am_s am_gr ≤ 3000000 := by decide +kernel
theorem lw_NN : lw_N Rel := by
  refine ⟨fun t gc gr ht h => ?_, fun t gc gr h => Rel.nx h⟩
  obtain ⟨hR, hI, own, hU, hG, hT, hC, hW, nl, hnl, enl, hLw⟩ := h
  obtain ⟨c1, c2, c3, c4, c5, c6, c7, c8, c9, c10⟩ := hC
  have s1 := am_gc_s
  have s2 := am_gr_s
  rw [c6, c7]
  constructor <;> omega

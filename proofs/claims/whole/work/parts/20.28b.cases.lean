/-! the law's cases, the small ones (laid by mkinv.py) -/
theorem k_c0 : Case xL_c0 := by
  intro next L xs i c xi xb xa xl mi mb ma ml h hn h1 h2 h3 h4 h5 hc
  obtain ⟨P, R, n, nb, hG, hF, hS, hC, hT, hW, hRl, hRd, hB, hH⟩ := h
  have hG' := hG
  obtain ⟨⟨e11, m0, e12, m1⟩, hL, hro, hpu, a0, a1, a2, a3, a4, a5, a6⟩ := hG'
  unfold xL_c0
  obtain ⟨o, q1, q2, ⟨P1, hp, hp8, ho⟩, hpu1, hro1⟩ := m_place hL.1 (xa 1) (xa 0) hpu hro (xs (i + 1).toNatClampNeg)
  refine bg h1 ?_
  refine bd (by rw [e11]; exact q1) ?_
  refine bg h1 ?_
  refine bd (by rw [m0, a1, a0]; exact q2) ?_
  refine igp rfl ?_
  exact hn _ _ _ _ _ _ _ _ ⟨P1, R, n, nb, ⟨⟨ho, ho, e12, m1⟩, ⟨hp8, hL.2.1, hL.2.2.mono hp⟩, hro1, hpu1, rfl, rfl, a2, a3, a4, a5, a6⟩, hF, hS, hC.mono hp (Nat.le_refl _), hT, hW, hRl, hRd.up, hB, hH⟩
theorem k_c1 : Case xL_c1 := by
  intro next L xs i c xi xb xa xl mi mb ma ml h hn h1 h2 h3 h4 h5 hc
  obtain ⟨P, R, n, nb, hG, hF, hS, hC, hT, hW, hRl, hRd, hB, hH⟩ := h
  have hG' := hG
  obtain ⟨⟨e11, m0, e12, m1⟩, hL, hro, hpu, a0, a1, a2, a3, a4, a5, a6⟩ := hG'
  unfold xL_c1
  obtain ⟨r, R1, da, fl, fr, le, t, q1, q2, hr1, hr16, hq⟩ := m_roadC hL.1 hL.2.1 hL.2.2 (xs (i + 1).toNatClampNeg) (xs (i + 2).toNatClampNeg) (xs (i + 3).toNatClampNeg)
  refine bg h1 ?_
  refine bg h2 ?_
  refine bg h3 ?_
  refine bd (by rw [e11, e12]; exact q1) ?_
  refine bg h1 ?_
  refine bg h2 ?_
  refine bg h3 ?_
  refine bd (by rw [m0, m1, a4, a5, a3, a2, a6]; exact q2) ?_
  refine igp rfl ?_
  exact hn _ _ _ _ _ _ _ _ ⟨P, R1, n, nb, ⟨⟨e11, m0, rfl, rfl⟩, ⟨hL.1, hr16, hq⟩, hro, hpu, a0, a1, rfl, rfl, rfl, rfl, rfl⟩, hF, hS, hC.mono (Nat.le_refl _) hr1, hT, hW, hRl, hRd.up, hB, hH⟩
theorem k_c3 : Case xL_c3 := by
  intro next L xs i c xi xb xa xl mi mb ma ml h hn h1 h2 h3 h4 h5 hc
  obtain ⟨P, R, n, nb, hG, hF, hS, hC, hT, hW, hRl, hRd, hB, hH⟩ := h
  have hG' := hG
  obtain ⟨⟨e11, m0, e12, m1⟩, hL, hro, hpu, a0, a1, a2, a3, a4, a5, a6⟩ := hG'
  unfold xL_c3
  obtain ⟨r, x1, m1_, q1, q2, hF1⟩ := m_walk hL.1 hF (xs (i + 1).toNatClampNeg) (xs (i + 2).toNatClampNeg)
  refine bg h1 ?_
  refine bg h2 ?_
  refine bd (by rw [e11]; exact q1) ?_
  refine bg h1 ?_
  refine bg h2 ?_
  refine bd (by rw [m0]; exact q2) ?_
  refine igp rfl ?_
  exact hn _ _ _ _ _ _ _ _ ⟨P, R, n, nb, hG, hF1, hS, hC, hT, hW, hRl, hRd.up, hB, hH⟩
theorem k_c4 : Case xL_c4 := by
  intro next L xs i c xi xb xa xl mi mb ma ml h hn h1 h2 h3 h4 h5 hc
  obtain ⟨P, R, n, nb, hG, hF, hS, hC, hT, hW, hRl, hRd, hB, hH⟩ := h
  have hG' := hG
  obtain ⟨⟨e11, m0, e12, m1⟩, hL, hro, hpu, a0, a1, a2, a3, a4, a5, a6⟩ := hG'
  unfold xL_c4
  obtain ⟨r, s1, n2, n3, n4, n5, n6, n7, q1, q2, hS1⟩ := m_set hS (xs (i + 1).toNatClampNeg) (xs (i + 2).toNatClampNeg)
  refine bg h1 ?_
  refine bg h2 ?_
  refine bd q1 ?_
  refine bg h1 ?_
  refine bg h2 ?_
  refine bd q2 ?_
  refine igp rfl ?_
  exact hn _ _ _ _ _ _ _ _ ⟨P, R, n, nb, hG, hF, hS1, hC, hT, hW, hRl, hRd.up, hB, hH⟩
theorem k_c5 : Case xL_c5 := by
  intro next L xs i c xi xb xa xl mi mb ma ml h hn h1 h2 h3 h4 h5 hc
  obtain ⟨P, R, n, nb, hG, hF, hS, hC, hT, hW, hRl, hRd, hB, hH⟩ := h
  have hG' := hG
  obtain ⟨⟨e11, m0, e12, m1⟩, hL, hro, hpu, a0, a1, a2, a3, a4, a5, a6⟩ := hG'
  unfold xL_c5
  obtain ⟨r, a, b, a1_, b1, da, fl, ro, nu, wh, ol, ne, nu1, wh1, ol1, ne1, q1, q2, hV, hC1⟩ := m_mend ⟨hL.1, hL.2.1, hro, hL.2.2⟩ hC (xs (i + 1).toNatClampNeg) (xs (i + 2).toNatClampNeg) (xs (i + 3).toNatClampNeg)
  refine bg h1 ?_
  refine bg h2 ?_
  refine bg h3 ?_
  refine bd (by rw [e11, e12]; exact q1) ?_
  refine bg h1 ?_
  refine bg h2 ?_
  refine bg h3 ?_
  refine bd (by rw [m0, m1, a4, a6, a0]; exact q2) ?_
  refine igp rfl ?_
  exact hn _ _ _ _ _ _ _ _ ⟨P, R, n, nb, ⟨⟨e11, m0, e12, m1⟩, ⟨hV.1, hV.2.1, hV.2.2.2⟩, hV.2.2.1, hpu, rfl, a1, a2, a3, rfl, a5, rfl⟩, hF, hS, hC1, hT, hW, hRl, hRd.up, hB, hH⟩
theorem k_c6 : Case xL_c6 := by
  intro next L xs i c xi xb xa xl mi mb ma ml h hn h1 h2 h3 h4 h5 hc
  obtain ⟨P, R, n, nb, hG, hF, hS, hC, hT, hW, hRl, hRd, hB, hH⟩ := h
  have hG' := hG
  obtain ⟨⟨e11, m0, e12, m1⟩, hL, hro, hpu, a0, a1, a2, a3, a4, a5, a6⟩ := hG'
  unfold xL_c6
  obtain ⟨r, q1, q2⟩ := m_of hL (xs (i + 1).toNatClampNeg) (xs (i + 2).toNatClampNeg)
  refine bg h1 ?_
  refine bg h2 ?_
  refine bd (by rw [e11, e12]; exact q1) ?_
  refine bg h1 ?_
  refine bg h2 ?_
  refine bd (by rw [m0, m1, a4, a5, a3, a2, a1, a6, a0]; exact q2) ?_
  refine igp rfl ?_
  exact hn _ _ _ _ _ _ _ _ ⟨P, R, n, nb, hG, hF, hS, hC, hT, hW, hRl, hRd.up, hB, hH⟩
theorem k_c7 : Case xL_c7 := by
  intro next L xs i c xi xb xa xl mi mb ma ml h hn h1 h2 h3 h4 h5 hc
  obtain ⟨P, R, n, nb, hG, hF, hS, hC, hT, hW, hRl, hRd, hB, hH⟩ := h
  have hG' := hG
  obtain ⟨⟨e11, m0, e12, m1⟩, hL, hro, hpu, a0, a1, a2, a3, a4, a5, a6⟩ := hG'
  unfold xL_c7
  obtain ⟨r, a, x1, b, m1_, q1, q2, hT1⟩ := m_feed hT (xs (i + 1).toNatClampNeg)
  refine bg h1 ?_
  refine bd q1 ?_
  refine bg h1 ?_
  refine bd q2 ?_
  refine igp rfl ?_
  exact hn _ _ _ _ _ _ _ _ ⟨P, R, n, nb, hG, hF, hS, hC, hT1, hW, hRl, hRd.up, hB, hH⟩
theorem k_c10 : Case xL_c10 := by
  intro next L xs i c xi xb xa xl mi mb ma ml h hn h1 h2 h3 h4 h5 hc
  obtain ⟨P, R, n, nb, hG, hF, hS, hC, hT, hW, hRl, hRd, hB, hH⟩ := h
  have hG' := hG
  obtain ⟨⟨e11, m0, e12, m1⟩, hL, hro, hpu, a0, a1, a2, a3, a4, a5, a6⟩ := hG'
  unfold xL_c10
  have hW0 := hW
  obtain ⟨⟨hn4, en, mn, hfo⟩, w0, w1, w2, w3⟩ := hW0
  obtain ⟨r, a, b, q1, q2, hfo1⟩ := m_force hn4 hfo (xs (i + 1).toNatClampNeg)
  refine bg h1 ?_
  refine bd (by rw [en]; exact q1) ?_
  refine bg h1 ?_
  refine bd (by rw [mn]; exact q2) ?_
  refine igp rfl ?_
  exact hn _ _ _ _ _ _ _ _ ⟨P, R, n, nb, hG, hF, hS, hC, hT, ⟨⟨hn4, en, mn, hfo1⟩, w0, w1, w2, w3⟩, hRl, hRd.up, hB, hH⟩
theorem k_c12 : Case xL_c12 := by
  intro next L xs i c xi xb xa xl mi mb ma ml h hn h1 h2 h3 h4 h5 hc
  obtain ⟨P, R, n, nb, hG, hF, hS, hC, hT, hW, hRl, hRd, hB, hH⟩ := h
  have hG' := hG
  obtain ⟨⟨e11, m0, e12, m1⟩, hL, hro, hpu, a0, a1, a2, a3, a4, a5, a6⟩ := hG'
  unfold xL_c12
  obtain ⟨v, a, b, q1, q2⟩ := m_far hL.1 hL.2.1 hL.2.2 (xa 21) (ma 28) (xs (i + 1).toNatClampNeg)
  refine bg h1 ?_
  refine bd (by rw [e11, e12]; exact q1) ?_
  refine bg h1 ?_
  refine bd (by rw [m0, m1, a5, a3, a2]; exact q2) ?_
  refine igp rfl ?_
  exact hn _ _ _ _ _ _ _ _ ⟨P, R, n, nb, hG, hF, hS, hC, hT, hW, hRl, hRd.up, hB, hH⟩
theorem k_c25 : Case xL_c25 := by
  intro next L xs i c xi xb xa xl mi mb ma ml h hn h1 h2 h3 h4 h5 hc
  obtain ⟨P, R, n, nb, hG, hF, hS, hC, hT, hW, hRl, hRd, hB, hH⟩ := h
  have hG' := hG
  obtain ⟨⟨e11, m0, e12, m1⟩, hL, hro, hpu, a0, a1, a2, a3, a4, a5, a6⟩ := hG'
  unfold xL_c25
  have hS0 := hS
  obtain ⟨s0, _, _, _, _, _, ⟨g, _, hg, hg2⟩, _, _⟩ := hS0
  obtain ⟨v, a, b, q1, q2⟩ := m_never hL.1 hL.2.1 hL.2.2 (xa 21) (ma 28) (xa 20) (show g < 8 by omega) (s0.trans hg2)
  refine bd (by rw [e11, e12]; exact q1) ?_
  refine bd (by rw [m0, m1, hg2, a5, a3, a2]; exact q2) ?_
  refine igp rfl ?_
  exact hn _ _ _ _ _ _ _ _ ⟨P, R, n, nb, hG, hF, hS, hC, hT, hW, hRl, hRd.up, hB, hH⟩
theorem k_c26 : Case xL_c26 := by
  intro next L xs i c xi xb xa xl mi mb ma ml h hn h1 h2 h3 h4 h5 hc
  obtain ⟨P, R, n, nb, hG, hF, hS, hC, hT, hW, hRl, hRd, hB, hH⟩ := h
  have hG' := hG
  obtain ⟨⟨e11, m0, e12, m1⟩, hL, hro, hpu, a0, a1, a2, a3, a4, a5, a6⟩ := hG'
  unfold xL_c26
  obtain ⟨r, a, ro, da, fl, q1, q2, hV, hC1⟩ := m_undo ⟨hL.1, hL.2.1, hro, hL.2.2⟩ hC
  refine bd (by rw [e11, e12]; exact q1) ?_
  refine bd (by rw [a4, a6, a0]; exact q2) ?_
  refine igp rfl ?_
  exact hn _ _ _ _ _ _ _ _ ⟨P, R, n, nb, ⟨⟨e11, m0, e12, m1⟩, ⟨hV.1, hV.2.1, hV.2.2.2⟩, hV.2.2.1, hpu, rfl, a1, a2, a3, rfl, a5, rfl⟩, hF, hS, hC1, hT, hW, hRl, hRd.up, hB, hH⟩
theorem k_c27 : Case xL_c27 := by
  intro next L xs i c xi xb xa xl mi mb ma ml h hn h1 h2 h3 h4 h5 hc
  obtain ⟨P, R, n, nb, hG, hF, hS, hC, hT, hW, hRl, hRd, hB, hH⟩ := h
  have hG' := hG
  obtain ⟨⟨e11, m0, e12, m1⟩, hL, hro, hpu, a0, a1, a2, a3, a4, a5, a6⟩ := hG'
  unfold xL_c27
  obtain ⟨r, a, ro, da, fl, q1, q2, hV, hC1⟩ := m_redo ⟨hL.1, hL.2.1, hro, hL.2.2⟩ hC
  refine bd (by rw [e11, e12]; exact q1) ?_
  refine bd (by rw [a4, a6, a0]; exact q2) ?_
  refine igp rfl ?_
  exact hn _ _ _ _ _ _ _ _ ⟨P, R, n, nb, ⟨⟨e11, m0, e12, m1⟩, ⟨hV.1, hV.2.1, hV.2.2.2⟩, hV.2.2.1, hpu, rfl, a1, a2, a3, rfl, a5, rfl⟩, hF, hS, hC1, hT, hW, hRl, hRd.up, hB, hH⟩
theorem k_c28 : Case xL_c28 := by
  intro next L xs i c xi xb xa xl mi mb ma ml h hn h1 h2 h3 h4 h5 hc
  obtain ⟨P, R, n, nb, hG, hF, hS, hC, hT, hW, hRl, hRd, hB, hH⟩ := h
  have hG' := hG
  obtain ⟨⟨e11, m0, e12, m1⟩, hL, hro, hpu, a0, a1, a2, a3, a4, a5, a6⟩ := hG'
  unfold xL_c28
  obtain ⟨r, a, k1, mk1, nb1, hnb, q1, q2, hB1⟩ := m_body hB (xs (i + 1).toNatClampNeg)
  refine bg h1 ?_
  refine bd q1 ?_
  refine bg h1 ?_
  refine bd q2 ?_
  refine igp rfl ?_
  exact hn _ _ _ _ _ _ _ _ ⟨P, R, n, nb1, hG, hF, hS, hC, hT, hW, hRl, hRd.up, hB1, hH.more hnb⟩
theorem k_c29 : Case xL_c29 := by
  intro next L xs i c xi xb xa xl mi mb ma ml h hn h1 h2 h3 h4 h5 hc
  obtain ⟨P, R, n, nb, hG, hF, hS, hC, hT, hW, hRl, hRd, hB, hH⟩ := h
  have hG' := hG
  obtain ⟨⟨e11, m0, e12, m1⟩, hL, hro, hpu, a0, a1, a2, a3, a4, a5, a6⟩ := hG'
  unfold xL_c29
  obtain ⟨o1, o2, q1, q2, eq, hB1⟩ := m_act hB (xi 24) (xi 25) (xs (i + 1).toNatClampNeg) (xs (i + 2).toNatClampNeg) (xs (i + 3).toNatClampNeg)
  refine bg h1 ?_
  refine bg h2 ?_
  refine bg h3 ?_
  refine bd q1 ?_
  refine bg h1 ?_
  refine bg h2 ?_
  refine bg h3 ?_
  refine bd q2 ?_
  refine igp eq ?_
  exact hn _ _ _ _ _ _ _ _ ⟨P, R, n, nb, hG, hF, hS, hC, hT, hW, hRl, hRd.up, hB1, hH⟩
theorem k_c30 : Case xL_c30 := by
  intro next L xs i c xi xb xa xl mi mb ma ml h hn h1 h2 h3 h4 h5 hc
  obtain ⟨P, R, n, nb, hG, hF, hS, hC, hT, hW, hRl, hRd, hB, hH⟩ := h
  have hG' := hG
  obtain ⟨⟨e11, m0, e12, m1⟩, hL, hro, hpu, a0, a1, a2, a3, a4, a5, a6⟩ := hG'
  unfold xL_c30
  obtain ⟨r, q1, q2⟩ := m_trace hB (xs (i + 1).toNatClampNeg)
  refine bg h1 ?_
  refine bd q1 ?_
  refine bg h1 ?_
  refine bd q2 ?_
  refine igp rfl ?_
  exact hn _ _ _ _ _ _ _ _ ⟨P, R, n, nb, hG, hF, hS, hC, hT, hW, hRl, hRd.up, hB, hH⟩
theorem k_c37 : Case xL_c37 := by
  intro next L xs i c xi xb xa xl mi mb ma ml h hn h1 h2 h3 h4 h5 hc
  obtain ⟨P, R, n, nb, hG, hF, hS, hC, hT, hW, hRl, hRd, hB, hH⟩ := h
  have hG' := hG
  obtain ⟨⟨e11, m0, e12, m1⟩, hL, hro, hpu, a0, a1, a2, a3, a4, a5, a6⟩ := hG'
  have hW0 := hW
  obtain ⟨⟨hn4, en, mn, hfo⟩, w0, w1, w2, w3⟩ := hW0
  have hT0 := hT
  obtain ⟨f, hf, t1, t2, t3, t4⟩ := hT0
  have hC0 := hC
  obtain ⟨d, s, hd, hs, c1, c2, c3, c4, c5⟩ := hC0
  have hB0 := hB
  obtain ⟨b1, b2, b3, b4, b5, b6, b7, b8⟩ := hB0
  unfold xL_c37
  refine bg h1 ?_
  obtain ⟨r, q⟩ : ∃ r, x8_count (xi 0) (xi 1) (xi 22) (xi 23) (xi 15) (xi 11) (xi 12) (xs (i + 1).toNatClampNeg) = some r := by
    unfold x8_count
    repeat' split
    all_goals exact ⟨_, rfl⟩
  have q2 : x9_count (mi 0) (mi 1) (mi 9) (mi 10) (mi 12) (mi 24) (mi 25) (xs (i + 1).toNatClampNeg) = some r := by
    rw [← m_countSame, ← q, t1, t2, en, mn, b2, b3, b6, c1, c3, e11, m0, e12, m1]
  refine bd q ?_
  refine bg h1 ?_
  refine bd q2 ?_
  refine igp rfl ?_
  exact hn _ _ _ _ _ _ _ _ ⟨P, R, n, nb, hG, hF, hS, hC, hT, hW, hRl, hRd.up, hB, hH⟩

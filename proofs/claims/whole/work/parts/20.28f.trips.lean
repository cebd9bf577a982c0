/-! the law's cases that ask a trip, with the rule (laid by mkinv.py) -/
theorem k_c16 : Case xL_c16 := by
  intro next L xs i c xi xb xa xl mi mb ma ml h hn h1 h2 h3 h4 h5 hc
  obtain ⟨P, R, n, nb, hG, hF, hS, hC, hT, hW, hRl, hRd, hB, hH⟩ := h
  have hG' := hG
  obtain ⟨⟨e11, m0, e12, m1⟩, hL, hro, hpu, a0, a1, a2, a3, a4, a5, a6⟩ := hG'
  have hRl0 := hRl
  obtain ⟨hb, hrul⟩ := hRl0
  obtain ⟨rl, hRC⟩ := RCof hrul
  have hW0 := hW
  obtain ⟨⟨hn4, en, mn, f1, f2⟩, w0, w1, w2, w3⟩ := hW0
  unfold xL_c16
  refine bg h1 ?_
  refine bg h2 ?_
  rcases f2 with f2 | ⟨q, hk, f2⟩
  · refine ign (show ¬ (xi 2 = 0) by rw [f2]; decide) ?_
    refine ign (show ¬ (xi 2 = 1) by rw [f2]; decide) ?_
    refine ign (show ¬ (xi 2 = 2) by rw [f2]; decide) ?_
    refine ign (show ¬ (xi 2 = 3) by rw [f2]; decide) ?_
    have tc := TCn (ma 13) (ma 14) (ma 16) (ma 17) (ma 18) (ma 15) hL hS f2 f1 (xi 1) (xi 21) (xa 25)
    obtain ⟨o1, o2, q1, q2, eq, r1, r2⟩ := m_goes tc hRC hRd.1 hRd.2 (by omega) (xi 3) (xi 4) (xi 5) (xi 6) (xi 7) (xi 8) (xi 9) (xi 10) (mi 18) (mi 19) (mi 20) (mi 21) (mi 22) (mi 23) (xa 26) (xa 24) (xa 9) (xa 15) (xa 8) (xa 10) (xa 12) (ma 28) (ma 21) (ma 20) (ma 29) (ma 27) (xs (i + 1).toNatClampNeg) (xs (i + 2).toNatClampNeg)
    refine bd (by rw [e11, e12]; exact q1) ?_
    refine bg h1 ?_
    refine bg h2 ?_
    refine bd (by rw [m0, m1, ← hb, a4, a5, a3, a2, a1, a6, a0]; exact q2) ?_
    refine igp eq ?_
    exact hn _ _ _ _ _ _ _ _ ⟨P, R, n, nb, hG, hF, hS, hC, hT, hW, hRl, ⟨r1.mono (by omega), r2.mono (by omega)⟩, hB, hH⟩
  · have hq : q = 0 ∨ q = 1 ∨ q = 2 ∨ q = 3 := by omega
    rcases hq with rfl | rfl | rfl | rfl
    · refine igp (show xi 2 = 0 from f2) ?_
      obtain ⟨lw, tc⟩ := TCk (x1 := (xi 1)) hL hS hn4 hk en f2 f1 (w0 hk)
      obtain ⟨o1, o2, q1, q2, eq, r1, r2⟩ := m_goes tc hRC hRd.1 hRd.2 (by omega) (xi 3) (xi 4) (xi 5) (xi 6) (xi 7) (xi 8) (xi 9) (xi 10) (mi 18) (mi 19) (mi 20) (mi 21) (mi 22) (mi 23) (xa 30) (xa 24) (xa 9) (xa 15) (xa 8) (xa 10) (xa 12) (ma 28) (ma 21) (ma 20) (ma 29) (ma 27) (xs (i + 1).toNatClampNeg) (xs (i + 2).toNatClampNeg)
      refine bd (by rw [e11, e12]; exact q1) ?_
      refine bg h1 ?_
      refine bg h2 ?_
      refine bd (by rw [m0, m1, ← hb, a4, a5, a3, a2, a1, a6, a0]; exact q2) ?_
      refine igp eq ?_
      exact hn _ _ _ _ _ _ _ _ ⟨P, R, n, nb, hG, hF, hS, hC, hT, hW, hRl, ⟨r1.mono (by omega), r2.mono (by omega)⟩, hB, hH⟩
    · refine ign (show ¬ (xi 2 = 0) by rw [f2]; decide) ?_
      refine igp (show xi 2 = 1 from f2) ?_
      obtain ⟨lw, tc⟩ := TCk (x1 := (xi 1)) hL hS hn4 hk en f2 f1 (w1 hk)
      obtain ⟨o1, o2, q1, q2, eq, r1, r2⟩ := m_goes tc hRC hRd.1 hRd.2 (by omega) (xi 3) (xi 4) (xi 5) (xi 6) (xi 7) (xi 8) (xi 9) (xi 10) (mi 18) (mi 19) (mi 20) (mi 21) (mi 22) (mi 23) (xa 32) (xa 24) (xa 9) (xa 15) (xa 8) (xa 10) (xa 12) (ma 28) (ma 21) (ma 20) (ma 29) (ma 27) (xs (i + 1).toNatClampNeg) (xs (i + 2).toNatClampNeg)
      refine bd (by rw [e11, e12]; exact q1) ?_
      refine bg h1 ?_
      refine bg h2 ?_
      refine bd (by rw [m0, m1, ← hb, a4, a5, a3, a2, a1, a6, a0]; exact q2) ?_
      refine igp eq ?_
      exact hn _ _ _ _ _ _ _ _ ⟨P, R, n, nb, hG, hF, hS, hC, hT, hW, hRl, ⟨r1.mono (by omega), r2.mono (by omega)⟩, hB, hH⟩
    · refine ign (show ¬ (xi 2 = 0) by rw [f2]; decide) ?_
      refine ign (show ¬ (xi 2 = 1) by rw [f2]; decide) ?_
      refine igp (show xi 2 = 2 from f2) ?_
      obtain ⟨lw, tc⟩ := TCk (x1 := (xi 1)) hL hS hn4 hk en f2 f1 (w2 hk)
      obtain ⟨o1, o2, q1, q2, eq, r1, r2⟩ := m_goes tc hRC hRd.1 hRd.2 (by omega) (xi 3) (xi 4) (xi 5) (xi 6) (xi 7) (xi 8) (xi 9) (xi 10) (mi 18) (mi 19) (mi 20) (mi 21) (mi 22) (mi 23) (xa 34) (xa 24) (xa 9) (xa 15) (xa 8) (xa 10) (xa 12) (ma 28) (ma 21) (ma 20) (ma 29) (ma 27) (xs (i + 1).toNatClampNeg) (xs (i + 2).toNatClampNeg)
      refine bd (by rw [e11, e12]; exact q1) ?_
      refine bg h1 ?_
      refine bg h2 ?_
      refine bd (by rw [m0, m1, ← hb, a4, a5, a3, a2, a1, a6, a0]; exact q2) ?_
      refine igp eq ?_
      exact hn _ _ _ _ _ _ _ _ ⟨P, R, n, nb, hG, hF, hS, hC, hT, hW, hRl, ⟨r1.mono (by omega), r2.mono (by omega)⟩, hB, hH⟩
    · refine ign (show ¬ (xi 2 = 0) by rw [f2]; decide) ?_
      refine ign (show ¬ (xi 2 = 1) by rw [f2]; decide) ?_
      refine ign (show ¬ (xi 2 = 2) by rw [f2]; decide) ?_
      refine igp (show xi 2 = 3 from f2) ?_
      obtain ⟨lw, tc⟩ := TCk (x1 := (xi 1)) hL hS hn4 hk en f2 f1 (w3 hk)
      obtain ⟨o1, o2, q1, q2, eq, r1, r2⟩ := m_goes tc hRC hRd.1 hRd.2 (by omega) (xi 3) (xi 4) (xi 5) (xi 6) (xi 7) (xi 8) (xi 9) (xi 10) (mi 18) (mi 19) (mi 20) (mi 21) (mi 22) (mi 23) (xa 36) (xa 24) (xa 9) (xa 15) (xa 8) (xa 10) (xa 12) (ma 28) (ma 21) (ma 20) (ma 29) (ma 27) (xs (i + 1).toNatClampNeg) (xs (i + 2).toNatClampNeg)
      refine bd (by rw [e11, e12]; exact q1) ?_
      refine bg h1 ?_
      refine bg h2 ?_
      refine bd (by rw [m0, m1, ← hb, a4, a5, a3, a2, a1, a6, a0]; exact q2) ?_
      refine igp eq ?_
      exact hn _ _ _ _ _ _ _ _ ⟨P, R, n, nb, hG, hF, hS, hC, hT, hW, hRl, ⟨r1.mono (by omega), r2.mono (by omega)⟩, hB, hH⟩
theorem k_c17 : Case xL_c17 := by
  intro next L xs i c xi xb xa xl mi mb ma ml h hn h1 h2 h3 h4 h5 hc
  obtain ⟨P, R, n, nb, hG, hF, hS, hC, hT, hW, hRl, hRd, hB, hH⟩ := h
  have hG' := hG
  obtain ⟨⟨e11, m0, e12, m1⟩, hL, hro, hpu, a0, a1, a2, a3, a4, a5, a6⟩ := hG'
  have hRl0 := hRl
  obtain ⟨hb, hrul⟩ := hRl0
  obtain ⟨rl, hRC⟩ := RCof hrul
  have hW0 := hW
  obtain ⟨⟨hn4, en, mn, f1, f2⟩, w0, w1, w2, w3⟩ := hW0
  unfold xL_c17
  refine bg h1 ?_
  refine bg h2 ?_
  refine bg h3 ?_
  rcases f2 with f2 | ⟨q, hk, f2⟩
  · refine ign (show ¬ (xi 2 = 0) by rw [f2]; decide) ?_
    refine ign (show ¬ (xi 2 = 1) by rw [f2]; decide) ?_
    refine ign (show ¬ (xi 2 = 2) by rw [f2]; decide) ?_
    refine ign (show ¬ (xi 2 = 3) by rw [f2]; decide) ?_
    have tc := TCn (ma 13) (ma 14) (ma 16) (ma 17) (ma 18) (ma 15) hL hS f2 f1 (xi 1) (xi 21) (xa 25)
    obtain ⟨o1, o2, q1, q2, eq, r1, r2⟩ := m_dark tc hRC hRd.1 hRd.2 (by omega) (xi 3) (xi 4) (xi 5) (xi 6) (xi 7) (xi 8) (xi 9) (xi 10) (mi 18) (mi 19) (mi 20) (mi 21) (mi 22) (mi 23) (xa 26) (xa 24) (xa 9) (xa 15) (xa 8) (xa 10) (xa 12) (ma 28) (ma 21) (ma 20) (ma 29) (ma 27) (xs (i + 1).toNatClampNeg) (xs (i + 2).toNatClampNeg) (xs (i + 3).toNatClampNeg)
    refine bd (by rw [e11, e12]; exact q1) ?_
    refine bg h1 ?_
    refine bg h2 ?_
    refine bg h3 ?_
    refine bd (by rw [m0, m1, ← hb, a4, a5, a3, a2, a1, a6, a0]; exact q2) ?_
    refine igp eq ?_
    exact hn _ _ _ _ _ _ _ _ ⟨P, R, n, nb, hG, hF, hS, hC, hT, hW, hRl, ⟨r1.mono (by omega), r2.mono (by omega)⟩, hB, hH⟩
  · have hq : q = 0 ∨ q = 1 ∨ q = 2 ∨ q = 3 := by omega
    rcases hq with rfl | rfl | rfl | rfl
    · refine igp (show xi 2 = 0 from f2) ?_
      obtain ⟨lw, tc⟩ := TCk (x1 := (xi 1)) hL hS hn4 hk en f2 f1 (w0 hk)
      obtain ⟨o1, o2, q1, q2, eq, r1, r2⟩ := m_dark tc hRC hRd.1 hRd.2 (by omega) (xi 3) (xi 4) (xi 5) (xi 6) (xi 7) (xi 8) (xi 9) (xi 10) (mi 18) (mi 19) (mi 20) (mi 21) (mi 22) (mi 23) (xa 30) (xa 24) (xa 9) (xa 15) (xa 8) (xa 10) (xa 12) (ma 28) (ma 21) (ma 20) (ma 29) (ma 27) (xs (i + 1).toNatClampNeg) (xs (i + 2).toNatClampNeg) (xs (i + 3).toNatClampNeg)
      refine bd (by rw [e11, e12]; exact q1) ?_
      refine bg h1 ?_
      refine bg h2 ?_
      refine bg h3 ?_
      refine bd (by rw [m0, m1, ← hb, a4, a5, a3, a2, a1, a6, a0]; exact q2) ?_
      refine igp eq ?_
      exact hn _ _ _ _ _ _ _ _ ⟨P, R, n, nb, hG, hF, hS, hC, hT, hW, hRl, ⟨r1.mono (by omega), r2.mono (by omega)⟩, hB, hH⟩
    · refine ign (show ¬ (xi 2 = 0) by rw [f2]; decide) ?_
      refine igp (show xi 2 = 1 from f2) ?_
      obtain ⟨lw, tc⟩ := TCk (x1 := (xi 1)) hL hS hn4 hk en f2 f1 (w1 hk)
      obtain ⟨o1, o2, q1, q2, eq, r1, r2⟩ := m_dark tc hRC hRd.1 hRd.2 (by omega) (xi 3) (xi 4) (xi 5) (xi 6) (xi 7) (xi 8) (xi 9) (xi 10) (mi 18) (mi 19) (mi 20) (mi 21) (mi 22) (mi 23) (xa 32) (xa 24) (xa 9) (xa 15) (xa 8) (xa 10) (xa 12) (ma 28) (ma 21) (ma 20) (ma 29) (ma 27) (xs (i + 1).toNatClampNeg) (xs (i + 2).toNatClampNeg) (xs (i + 3).toNatClampNeg)
      refine bd (by rw [e11, e12]; exact q1) ?_
      refine bg h1 ?_
      refine bg h2 ?_
      refine bg h3 ?_
      refine bd (by rw [m0, m1, ← hb, a4, a5, a3, a2, a1, a6, a0]; exact q2) ?_
      refine igp eq ?_
      exact hn _ _ _ _ _ _ _ _ ⟨P, R, n, nb, hG, hF, hS, hC, hT, hW, hRl, ⟨r1.mono (by omega), r2.mono (by omega)⟩, hB, hH⟩
    · refine ign (show ¬ (xi 2 = 0) by rw [f2]; decide) ?_
      refine ign (show ¬ (xi 2 = 1) by rw [f2]; decide) ?_
      refine igp (show xi 2 = 2 from f2) ?_
      obtain ⟨lw, tc⟩ := TCk (x1 := (xi 1)) hL hS hn4 hk en f2 f1 (w2 hk)
      obtain ⟨o1, o2, q1, q2, eq, r1, r2⟩ := m_dark tc hRC hRd.1 hRd.2 (by omega) (xi 3) (xi 4) (xi 5) (xi 6) (xi 7) (xi 8) (xi 9) (xi 10) (mi 18) (mi 19) (mi 20) (mi 21) (mi 22) (mi 23) (xa 34) (xa 24) (xa 9) (xa 15) (xa 8) (xa 10) (xa 12) (ma 28) (ma 21) (ma 20) (ma 29) (ma 27) (xs (i + 1).toNatClampNeg) (xs (i + 2).toNatClampNeg) (xs (i + 3).toNatClampNeg)
      refine bd (by rw [e11, e12]; exact q1) ?_
      refine bg h1 ?_
      refine bg h2 ?_
      refine bg h3 ?_
      refine bd (by rw [m0, m1, ← hb, a4, a5, a3, a2, a1, a6, a0]; exact q2) ?_
      refine igp eq ?_
      exact hn _ _ _ _ _ _ _ _ ⟨P, R, n, nb, hG, hF, hS, hC, hT, hW, hRl, ⟨r1.mono (by omega), r2.mono (by omega)⟩, hB, hH⟩
    · refine ign (show ¬ (xi 2 = 0) by rw [f2]; decide) ?_
      refine ign (show ¬ (xi 2 = 1) by rw [f2]; decide) ?_
      refine ign (show ¬ (xi 2 = 2) by rw [f2]; decide) ?_
      refine igp (show xi 2 = 3 from f2) ?_
      obtain ⟨lw, tc⟩ := TCk (x1 := (xi 1)) hL hS hn4 hk en f2 f1 (w3 hk)
      obtain ⟨o1, o2, q1, q2, eq, r1, r2⟩ := m_dark tc hRC hRd.1 hRd.2 (by omega) (xi 3) (xi 4) (xi 5) (xi 6) (xi 7) (xi 8) (xi 9) (xi 10) (mi 18) (mi 19) (mi 20) (mi 21) (mi 22) (mi 23) (xa 36) (xa 24) (xa 9) (xa 15) (xa 8) (xa 10) (xa 12) (ma 28) (ma 21) (ma 20) (ma 29) (ma 27) (xs (i + 1).toNatClampNeg) (xs (i + 2).toNatClampNeg) (xs (i + 3).toNatClampNeg)
      refine bd (by rw [e11, e12]; exact q1) ?_
      refine bg h1 ?_
      refine bg h2 ?_
      refine bg h3 ?_
      refine bd (by rw [m0, m1, ← hb, a4, a5, a3, a2, a1, a6, a0]; exact q2) ?_
      refine igp eq ?_
      exact hn _ _ _ _ _ _ _ _ ⟨P, R, n, nb, hG, hF, hS, hC, hT, hW, hRl, ⟨r1.mono (by omega), r2.mono (by omega)⟩, hB, hH⟩
theorem k_c18 : Case xL_c18 := by
  intro next L xs i c xi xb xa xl mi mb ma ml h hn h1 h2 h3 h4 h5 hc
  obtain ⟨P, R, n, nb, hG, hF, hS, hC, hT, hW, hRl, hRd, hB, hH⟩ := h
  have hG' := hG
  obtain ⟨⟨e11, m0, e12, m1⟩, hL, hro, hpu, a0, a1, a2, a3, a4, a5, a6⟩ := hG'
  have hRl0 := hRl
  obtain ⟨hb, hrul⟩ := hRl0
  obtain ⟨rl, hRC⟩ := RCof hrul
  have hW0 := hW
  obtain ⟨⟨hn4, en, mn, f1, f2⟩, w0, w1, w2, w3⟩ := hW0
  unfold xL_c18
  refine bg h1 ?_
  refine bg h2 ?_
  rcases f2 with f2 | ⟨q, hk, f2⟩
  · refine ign (show ¬ (xi 2 = 0) by rw [f2]; decide) ?_
    refine ign (show ¬ (xi 2 = 1) by rw [f2]; decide) ?_
    refine ign (show ¬ (xi 2 = 2) by rw [f2]; decide) ?_
    refine ign (show ¬ (xi 2 = 3) by rw [f2]; decide) ?_
    have tc := TCn (ma 13) (ma 14) (ma 16) (ma 17) (ma 18) (ma 15) hL hS f2 f1 (xi 1) (xi 21) (xa 25)
    obtain ⟨o1, o2, q1, q2, eq, r1, r2⟩ := m_sign tc hRC hRd.1 hRd.2 (by omega) (xi 3) (xi 4) (xi 5) (xi 6) (xi 7) (xi 8) (xi 9) (xi 10) (mi 18) (mi 19) (mi 20) (mi 21) (mi 22) (mi 23) (xa 26) (xa 24) (xa 9) (xa 15) (xa 8) (xa 10) (xa 12) (ma 28) (ma 21) (ma 20) (ma 29) (ma 27) (xs (i + 1).toNatClampNeg) (xs (i + 2).toNatClampNeg)
    refine bd (by rw [e11, e12]; exact q1) ?_
    refine bg h1 ?_
    refine bg h2 ?_
    refine bd (by rw [m0, m1, ← hb, a4, a5, a3, a2, a1, a6, a0]; exact q2) ?_
    refine igp eq ?_
    exact hn _ _ _ _ _ _ _ _ ⟨P, R, n, nb, hG, hF, hS, hC, hT, hW, hRl, ⟨r1.mono (by omega), r2.mono (by omega)⟩, hB, hH⟩
  · have hq : q = 0 ∨ q = 1 ∨ q = 2 ∨ q = 3 := by omega
    rcases hq with rfl | rfl | rfl | rfl
    · refine igp (show xi 2 = 0 from f2) ?_
      obtain ⟨lw, tc⟩ := TCk (x1 := (xi 1)) hL hS hn4 hk en f2 f1 (w0 hk)
      obtain ⟨o1, o2, q1, q2, eq, r1, r2⟩ := m_sign tc hRC hRd.1 hRd.2 (by omega) (xi 3) (xi 4) (xi 5) (xi 6) (xi 7) (xi 8) (xi 9) (xi 10) (mi 18) (mi 19) (mi 20) (mi 21) (mi 22) (mi 23) (xa 30) (xa 24) (xa 9) (xa 15) (xa 8) (xa 10) (xa 12) (ma 28) (ma 21) (ma 20) (ma 29) (ma 27) (xs (i + 1).toNatClampNeg) (xs (i + 2).toNatClampNeg)
      refine bd (by rw [e11, e12]; exact q1) ?_
      refine bg h1 ?_
      refine bg h2 ?_
      refine bd (by rw [m0, m1, ← hb, a4, a5, a3, a2, a1, a6, a0]; exact q2) ?_
      refine igp eq ?_
      exact hn _ _ _ _ _ _ _ _ ⟨P, R, n, nb, hG, hF, hS, hC, hT, hW, hRl, ⟨r1.mono (by omega), r2.mono (by omega)⟩, hB, hH⟩
    · refine ign (show ¬ (xi 2 = 0) by rw [f2]; decide) ?_
      refine igp (show xi 2 = 1 from f2) ?_
      obtain ⟨lw, tc⟩ := TCk (x1 := (xi 1)) hL hS hn4 hk en f2 f1 (w1 hk)
      obtain ⟨o1, o2, q1, q2, eq, r1, r2⟩ := m_sign tc hRC hRd.1 hRd.2 (by omega) (xi 3) (xi 4) (xi 5) (xi 6) (xi 7) (xi 8) (xi 9) (xi 10) (mi 18) (mi 19) (mi 20) (mi 21) (mi 22) (mi 23) (xa 32) (xa 24) (xa 9) (xa 15) (xa 8) (xa 10) (xa 12) (ma 28) (ma 21) (ma 20) (ma 29) (ma 27) (xs (i + 1).toNatClampNeg) (xs (i + 2).toNatClampNeg)
      refine bd (by rw [e11, e12]; exact q1) ?_
      refine bg h1 ?_
      refine bg h2 ?_
      refine bd (by rw [m0, m1, ← hb, a4, a5, a3, a2, a1, a6, a0]; exact q2) ?_
      refine igp eq ?_
      exact hn _ _ _ _ _ _ _ _ ⟨P, R, n, nb, hG, hF, hS, hC, hT, hW, hRl, ⟨r1.mono (by omega), r2.mono (by omega)⟩, hB, hH⟩
    · refine ign (show ¬ (xi 2 = 0) by rw [f2]; decide) ?_
      refine ign (show ¬ (xi 2 = 1) by rw [f2]; decide) ?_
      refine igp (show xi 2 = 2 from f2) ?_
      obtain ⟨lw, tc⟩ := TCk (x1 := (xi 1)) hL hS hn4 hk en f2 f1 (w2 hk)
      obtain ⟨o1, o2, q1, q2, eq, r1, r2⟩ := m_sign tc hRC hRd.1 hRd.2 (by omega) (xi 3) (xi 4) (xi 5) (xi 6) (xi 7) (xi 8) (xi 9) (xi 10) (mi 18) (mi 19) (mi 20) (mi 21) (mi 22) (mi 23) (xa 34) (xa 24) (xa 9) (xa 15) (xa 8) (xa 10) (xa 12) (ma 28) (ma 21) (ma 20) (ma 29) (ma 27) (xs (i + 1).toNatClampNeg) (xs (i + 2).toNatClampNeg)
      refine bd (by rw [e11, e12]; exact q1) ?_
      refine bg h1 ?_
      refine bg h2 ?_
      refine bd (by rw [m0, m1, ← hb, a4, a5, a3, a2, a1, a6, a0]; exact q2) ?_
      refine igp eq ?_
      exact hn _ _ _ _ _ _ _ _ ⟨P, R, n, nb, hG, hF, hS, hC, hT, hW, hRl, ⟨r1.mono (by omega), r2.mono (by omega)⟩, hB, hH⟩
    · refine ign (show ¬ (xi 2 = 0) by rw [f2]; decide) ?_
      refine ign (show ¬ (xi 2 = 1) by rw [f2]; decide) ?_
      refine ign (show ¬ (xi 2 = 2) by rw [f2]; decide) ?_
      refine igp (show xi 2 = 3 from f2) ?_
      obtain ⟨lw, tc⟩ := TCk (x1 := (xi 1)) hL hS hn4 hk en f2 f1 (w3 hk)
      obtain ⟨o1, o2, q1, q2, eq, r1, r2⟩ := m_sign tc hRC hRd.1 hRd.2 (by omega) (xi 3) (xi 4) (xi 5) (xi 6) (xi 7) (xi 8) (xi 9) (xi 10) (mi 18) (mi 19) (mi 20) (mi 21) (mi 22) (mi 23) (xa 36) (xa 24) (xa 9) (xa 15) (xa 8) (xa 10) (xa 12) (ma 28) (ma 21) (ma 20) (ma 29) (ma 27) (xs (i + 1).toNatClampNeg) (xs (i + 2).toNatClampNeg)
      refine bd (by rw [e11, e12]; exact q1) ?_
      refine bg h1 ?_
      refine bg h2 ?_
      refine bd (by rw [m0, m1, ← hb, a4, a5, a3, a2, a1, a6, a0]; exact q2) ?_
      refine igp eq ?_
      exact hn _ _ _ _ _ _ _ _ ⟨P, R, n, nb, hG, hF, hS, hC, hT, hW, hRl, ⟨r1.mono (by omega), r2.mono (by omega)⟩, hB, hH⟩
theorem k_c19 : Case xL_c19 := by
  intro next L xs i c xi xb xa xl mi mb ma ml h hn h1 h2 h3 h4 h5 hc
  obtain ⟨P, R, n, nb, hG, hF, hS, hC, hT, hW, hRl, hRd, hB, hH⟩ := h
  have hG' := hG
  obtain ⟨⟨e11, m0, e12, m1⟩, hL, hro, hpu, a0, a1, a2, a3, a4, a5, a6⟩ := hG'
  have hRl0 := hRl
  obtain ⟨hb, hrul⟩ := hRl0
  obtain ⟨rl, hRC⟩ := RCof hrul
  have hW0 := hW
  obtain ⟨⟨hn4, en, mn, f1, f2⟩, w0, w1, w2, w3⟩ := hW0
  unfold xL_c19
  refine bg h1 ?_
  refine bg h2 ?_
  rcases f2 with f2 | ⟨q, hk, f2⟩
  · refine ign (show ¬ (xi 2 = 0) by rw [f2]; decide) ?_
    refine ign (show ¬ (xi 2 = 1) by rw [f2]; decide) ?_
    refine ign (show ¬ (xi 2 = 2) by rw [f2]; decide) ?_
    refine ign (show ¬ (xi 2 = 3) by rw [f2]; decide) ?_
    have tc := TCn (ma 13) (ma 14) (ma 16) (ma 17) (ma 18) (ma 15) hL hS f2 f1 (xi 1) (xi 21) (xa 25)
    obtain ⟨o1, o2, q1, q2, eq, r1, r2⟩ := m_in tc hRC hRd.1 hRd.2 (by omega) (xi 3) (xi 4) (xi 5) (xi 6) (xi 7) (xi 8) (xi 9) (xi 10) (mi 18) (mi 19) (mi 20) (mi 21) (mi 22) (mi 23) (xa 26) (xa 24) (xa 9) (xa 15) (xa 8) (xa 10) (xa 12) (ma 28) (ma 21) (ma 20) (ma 29) (ma 27) (xs (i + 1).toNatClampNeg) (xs (i + 2).toNatClampNeg)
    refine bd (by rw [e11, e12]; exact q1) ?_
    refine bg h1 ?_
    refine bg h2 ?_
    refine bd (by rw [m0, m1, ← hb, a4, a5, a3, a2, a1, a6, a0]; exact q2) ?_
    refine igp eq ?_
    exact hn _ _ _ _ _ _ _ _ ⟨P, R, n, nb, hG, hF, hS, hC, hT, hW, hRl, ⟨r1.mono (by omega), r2.mono (by omega)⟩, hB, hH⟩
  · have hq : q = 0 ∨ q = 1 ∨ q = 2 ∨ q = 3 := by omega
    rcases hq with rfl | rfl | rfl | rfl
    · refine igp (show xi 2 = 0 from f2) ?_
      obtain ⟨lw, tc⟩ := TCk (x1 := (xi 1)) hL hS hn4 hk en f2 f1 (w0 hk)
      obtain ⟨o1, o2, q1, q2, eq, r1, r2⟩ := m_in tc hRC hRd.1 hRd.2 (by omega) (xi 3) (xi 4) (xi 5) (xi 6) (xi 7) (xi 8) (xi 9) (xi 10) (mi 18) (mi 19) (mi 20) (mi 21) (mi 22) (mi 23) (xa 30) (xa 24) (xa 9) (xa 15) (xa 8) (xa 10) (xa 12) (ma 28) (ma 21) (ma 20) (ma 29) (ma 27) (xs (i + 1).toNatClampNeg) (xs (i + 2).toNatClampNeg)
      refine bd (by rw [e11, e12]; exact q1) ?_
      refine bg h1 ?_
      refine bg h2 ?_
      refine bd (by rw [m0, m1, ← hb, a4, a5, a3, a2, a1, a6, a0]; exact q2) ?_
      refine igp eq ?_
      exact hn _ _ _ _ _ _ _ _ ⟨P, R, n, nb, hG, hF, hS, hC, hT, hW, hRl, ⟨r1.mono (by omega), r2.mono (by omega)⟩, hB, hH⟩
    · refine ign (show ¬ (xi 2 = 0) by rw [f2]; decide) ?_
      refine igp (show xi 2 = 1 from f2) ?_
      obtain ⟨lw, tc⟩ := TCk (x1 := (xi 1)) hL hS hn4 hk en f2 f1 (w1 hk)
      obtain ⟨o1, o2, q1, q2, eq, r1, r2⟩ := m_in tc hRC hRd.1 hRd.2 (by omega) (xi 3) (xi 4) (xi 5) (xi 6) (xi 7) (xi 8) (xi 9) (xi 10) (mi 18) (mi 19) (mi 20) (mi 21) (mi 22) (mi 23) (xa 32) (xa 24) (xa 9) (xa 15) (xa 8) (xa 10) (xa 12) (ma 28) (ma 21) (ma 20) (ma 29) (ma 27) (xs (i + 1).toNatClampNeg) (xs (i + 2).toNatClampNeg)
      refine bd (by rw [e11, e12]; exact q1) ?_
      refine bg h1 ?_
      refine bg h2 ?_
      refine bd (by rw [m0, m1, ← hb, a4, a5, a3, a2, a1, a6, a0]; exact q2) ?_
      refine igp eq ?_
      exact hn _ _ _ _ _ _ _ _ ⟨P, R, n, nb, hG, hF, hS, hC, hT, hW, hRl, ⟨r1.mono (by omega), r2.mono (by omega)⟩, hB, hH⟩
    · refine ign (show ¬ (xi 2 = 0) by rw [f2]; decide) ?_
      refine ign (show ¬ (xi 2 = 1) by rw [f2]; decide) ?_
      refine igp (show xi 2 = 2 from f2) ?_
      obtain ⟨lw, tc⟩ := TCk (x1 := (xi 1)) hL hS hn4 hk en f2 f1 (w2 hk)
      obtain ⟨o1, o2, q1, q2, eq, r1, r2⟩ := m_in tc hRC hRd.1 hRd.2 (by omega) (xi 3) (xi 4) (xi 5) (xi 6) (xi 7) (xi 8) (xi 9) (xi 10) (mi 18) (mi 19) (mi 20) (mi 21) (mi 22) (mi 23) (xa 34) (xa 24) (xa 9) (xa 15) (xa 8) (xa 10) (xa 12) (ma 28) (ma 21) (ma 20) (ma 29) (ma 27) (xs (i + 1).toNatClampNeg) (xs (i + 2).toNatClampNeg)
      refine bd (by rw [e11, e12]; exact q1) ?_
      refine bg h1 ?_
      refine bg h2 ?_
      refine bd (by rw [m0, m1, ← hb, a4, a5, a3, a2, a1, a6, a0]; exact q2) ?_
      refine igp eq ?_
      exact hn _ _ _ _ _ _ _ _ ⟨P, R, n, nb, hG, hF, hS, hC, hT, hW, hRl, ⟨r1.mono (by omega), r2.mono (by omega)⟩, hB, hH⟩
    · refine ign (show ¬ (xi 2 = 0) by rw [f2]; decide) ?_
      refine ign (show ¬ (xi 2 = 1) by rw [f2]; decide) ?_
      refine ign (show ¬ (xi 2 = 2) by rw [f2]; decide) ?_
      refine igp (show xi 2 = 3 from f2) ?_
      obtain ⟨lw, tc⟩ := TCk (x1 := (xi 1)) hL hS hn4 hk en f2 f1 (w3 hk)
      obtain ⟨o1, o2, q1, q2, eq, r1, r2⟩ := m_in tc hRC hRd.1 hRd.2 (by omega) (xi 3) (xi 4) (xi 5) (xi 6) (xi 7) (xi 8) (xi 9) (xi 10) (mi 18) (mi 19) (mi 20) (mi 21) (mi 22) (mi 23) (xa 36) (xa 24) (xa 9) (xa 15) (xa 8) (xa 10) (xa 12) (ma 28) (ma 21) (ma 20) (ma 29) (ma 27) (xs (i + 1).toNatClampNeg) (xs (i + 2).toNatClampNeg)
      refine bd (by rw [e11, e12]; exact q1) ?_
      refine bg h1 ?_
      refine bg h2 ?_
      refine bd (by rw [m0, m1, ← hb, a4, a5, a3, a2, a1, a6, a0]; exact q2) ?_
      refine igp eq ?_
      exact hn _ _ _ _ _ _ _ _ ⟨P, R, n, nb, hG, hF, hS, hC, hT, hW, hRl, ⟨r1.mono (by omega), r2.mono (by omega)⟩, hB, hH⟩

/-! the law's case of the book (laid by mkinv.py) -/
theorem k_c23 : Case xL_c23 := by
  intro next L xs i c xi xb xa xl mi mb ma ml h hn h1 h2 h3 h4 h5 hc
  obtain ⟨P, R, n, nb, hG, hF, hS, hC, hT, hW, hRl, hRd, hB, hH⟩ := h
  have hG' := hG
  obtain ⟨⟨e11, m0, e12, m1⟩, hL, hro, hpu, a0, a1, a2, a3, a4, a5, a6⟩ := hG'
  have hB0 := hB
  obtain ⟨b1, b2, b3, b4, b5, b6, b7, b8⟩ := hB0
  have hH0 := hH
  obtain ⟨g0, g1, g2, g3, g4, g5⟩ := hH0
  have hRl0 := hRl
  obtain ⟨hb, hrul⟩ := hRl0
  obtain ⟨rl, hRC⟩ := RCof hrul
  have hW0 := hW
  obtain ⟨⟨hn4, en, mn, f1, f2⟩, w0, w1, w2, w3⟩ := hW0
  unfold xL_c23
  refine bg h1 ?_
  refine bg h2 ?_
  refine bg h3 ?_
  by_cases x1_0 : xs (i + 1).toNatClampNeg = 0
  · refine igp x1_0 ?_
    have y1 : xs (i + 1).toNatClampNeg = I 0 := x1_0
    rcases f2 with f2 | ⟨q, hk, f2⟩
    · refine ign (show ¬ (xi 2 = 0) by rw [f2]; decide) ?_
      refine ign (show ¬ (xi 2 = 1) by rw [f2]; decide) ?_
      refine ign (show ¬ (xi 2 = 2) by rw [f2]; decide) ?_
      refine ign (show ¬ (xi 2 = 3) by rw [f2]; decide) ?_
      have tc := TCn (ma 13) (ma 14) (ma 16) (ma 17) (ma 18) (ma 15) hL hS f2 f1 (I n) 0 (fun _ => 0)
      obtain ⟨o1, o2, q1, q2, eq, r1, r2⟩ := m_book hn4 tc w0 w1 w2 w3 (by decide) b1 g0 hRd.1 hRd.2 (by omega) (xb 0) (xi 3) (xi 4) (xi 5) (xi 6) (xi 7) (xi 8) 0 (mi 18) (mi 19) (mi 20) (mi 21) (xa 30) (xa 32) (xa 34) (xa 36) (xa 9) (xa 14) (xa 8) (xa 10) (ma 21) (ma 20) (ma 27) (xs (i + 2).toNatClampNeg) (xs (i + 3).toNatClampNeg)
      refine bd (by rw [en, e11, e12, y1]; exact q1) ?_
      refine bg h1 ?_
      refine bg h2 ?_
      refine bg h3 ?_
      refine bd (by rw [m0, m1, mn, a4, a3, a2, a1, a6, a0, y1]; exact q2) ?_
      refine igp eq ?_
      exact hn _ _ _ _ _ _ _ _ ⟨P, R, n, nb, hG, hF, hS, hC, hT, hW, hRl, ⟨r1.mono (by omega), r2.mono (by omega)⟩, hB, hH⟩
    · have hq : q = 0 ∨ q = 1 ∨ q = 2 ∨ q = 3 := by omega
      rcases hq with rfl | rfl | rfl | rfl
      · refine igp (show xi 2 = 0 from f2) ?_
        obtain ⟨lw, tc⟩ := TCk (x1 := (I n)) hL hS hn4 hk rfl f2 f1 (w0 hk)
        obtain ⟨o1, o2, q1, q2, eq, r1, r2⟩ := m_book hn4 tc w0 w1 w2 w3 (by decide) b1 g0 hRd.1 hRd.2 (by omega) (xb 0) (xi 3) (xi 4) (xi 5) (xi 6) (xi 7) (xi 8) 0 (mi 18) (mi 19) (mi 20) (mi 21) (xa 30) (xa 32) (xa 34) (xa 36) (xa 9) (xa 14) (xa 8) (xa 10) (ma 21) (ma 20) (ma 27) (xs (i + 2).toNatClampNeg) (xs (i + 3).toNatClampNeg)
        refine bd (by rw [en, e11, e12, y1]; exact q1) ?_
        refine bg h1 ?_
        refine bg h2 ?_
        refine bg h3 ?_
        refine bd (by rw [m0, m1, mn, a4, a3, a2, a1, a6, a0, y1]; exact q2) ?_
        refine igp eq ?_
        exact hn _ _ _ _ _ _ _ _ ⟨P, R, n, nb, hG, hF, hS, hC, hT, hW, hRl, ⟨r1.mono (by omega), r2.mono (by omega)⟩, hB, hH⟩
      · refine ign (show ¬ (xi 2 = 0) by rw [f2]; decide) ?_
        refine igp (show xi 2 = 1 from f2) ?_
        obtain ⟨lw, tc⟩ := TCk (x1 := (I n)) hL hS hn4 hk rfl f2 f1 (w1 hk)
        obtain ⟨o1, o2, q1, q2, eq, r1, r2⟩ := m_book hn4 tc w0 w1 w2 w3 (by decide) b1 g0 hRd.1 hRd.2 (by omega) (xb 0) (xi 3) (xi 4) (xi 5) (xi 6) (xi 7) (xi 8) 0 (mi 18) (mi 19) (mi 20) (mi 21) (xa 30) (xa 32) (xa 34) (xa 36) (xa 9) (xa 14) (xa 8) (xa 10) (ma 21) (ma 20) (ma 27) (xs (i + 2).toNatClampNeg) (xs (i + 3).toNatClampNeg)
        refine bd (by rw [en, e11, e12, y1]; exact q1) ?_
        refine bg h1 ?_
        refine bg h2 ?_
        refine bg h3 ?_
        refine bd (by rw [m0, m1, mn, a4, a3, a2, a1, a6, a0, y1]; exact q2) ?_
        refine igp eq ?_
        exact hn _ _ _ _ _ _ _ _ ⟨P, R, n, nb, hG, hF, hS, hC, hT, hW, hRl, ⟨r1.mono (by omega), r2.mono (by omega)⟩, hB, hH⟩
      · refine ign (show ¬ (xi 2 = 0) by rw [f2]; decide) ?_
        refine ign (show ¬ (xi 2 = 1) by rw [f2]; decide) ?_
        refine igp (show xi 2 = 2 from f2) ?_
        obtain ⟨lw, tc⟩ := TCk (x1 := (I n)) hL hS hn4 hk rfl f2 f1 (w2 hk)
        obtain ⟨o1, o2, q1, q2, eq, r1, r2⟩ := m_book hn4 tc w0 w1 w2 w3 (by decide) b1 g0 hRd.1 hRd.2 (by omega) (xb 0) (xi 3) (xi 4) (xi 5) (xi 6) (xi 7) (xi 8) 0 (mi 18) (mi 19) (mi 20) (mi 21) (xa 30) (xa 32) (xa 34) (xa 36) (xa 9) (xa 14) (xa 8) (xa 10) (ma 21) (ma 20) (ma 27) (xs (i + 2).toNatClampNeg) (xs (i + 3).toNatClampNeg)
        refine bd (by rw [en, e11, e12, y1]; exact q1) ?_
        refine bg h1 ?_
        refine bg h2 ?_
        refine bg h3 ?_
        refine bd (by rw [m0, m1, mn, a4, a3, a2, a1, a6, a0, y1]; exact q2) ?_
        refine igp eq ?_
        exact hn _ _ _ _ _ _ _ _ ⟨P, R, n, nb, hG, hF, hS, hC, hT, hW, hRl, ⟨r1.mono (by omega), r2.mono (by omega)⟩, hB, hH⟩
      · refine ign (show ¬ (xi 2 = 0) by rw [f2]; decide) ?_
        refine ign (show ¬ (xi 2 = 1) by rw [f2]; decide) ?_
        refine ign (show ¬ (xi 2 = 2) by rw [f2]; decide) ?_
        refine igp (show xi 2 = 3 from f2) ?_
        obtain ⟨lw, tc⟩ := TCk (x1 := (I n)) hL hS hn4 hk rfl f2 f1 (w3 hk)
        obtain ⟨o1, o2, q1, q2, eq, r1, r2⟩ := m_book hn4 tc w0 w1 w2 w3 (by decide) b1 g0 hRd.1 hRd.2 (by omega) (xb 0) (xi 3) (xi 4) (xi 5) (xi 6) (xi 7) (xi 8) 0 (mi 18) (mi 19) (mi 20) (mi 21) (xa 30) (xa 32) (xa 34) (xa 36) (xa 9) (xa 14) (xa 8) (xa 10) (ma 21) (ma 20) (ma 27) (xs (i + 2).toNatClampNeg) (xs (i + 3).toNatClampNeg)
        refine bd (by rw [en, e11, e12, y1]; exact q1) ?_
        refine bg h1 ?_
        refine bg h2 ?_
        refine bg h3 ?_
        refine bd (by rw [m0, m1, mn, a4, a3, a2, a1, a6, a0, y1]; exact q2) ?_
        refine igp eq ?_
        exact hn _ _ _ _ _ _ _ _ ⟨P, R, n, nb, hG, hF, hS, hC, hT, hW, hRl, ⟨r1.mono (by omega), r2.mono (by omega)⟩, hB, hH⟩
  refine ign x1_0 ?_
  by_cases x1_1 : xs (i + 1).toNatClampNeg = 1
  · refine igp x1_1 ?_
    have y1 : xs (i + 1).toNatClampNeg = I 1 := x1_1
    rcases f2 with f2 | ⟨q, hk, f2⟩
    · refine ign (show ¬ (xi 2 = 0) by rw [f2]; decide) ?_
      refine ign (show ¬ (xi 2 = 1) by rw [f2]; decide) ?_
      refine ign (show ¬ (xi 2 = 2) by rw [f2]; decide) ?_
      refine ign (show ¬ (xi 2 = 3) by rw [f2]; decide) ?_
      have tc := TCn (ma 13) (ma 14) (ma 16) (ma 17) (ma 18) (ma 15) hL hS f2 f1 (I n) 0 (fun _ => 0)
      obtain ⟨o1, o2, q1, q2, eq, r1, r2⟩ := m_book hn4 tc w0 w1 w2 w3 (by decide) b1 g1 hRd.1 hRd.2 (by omega) (xb 0) (xi 3) (xi 4) (xi 5) (xi 6) (xi 7) (xi 8) 0 (mi 18) (mi 19) (mi 20) (mi 21) (xa 30) (xa 32) (xa 34) (xa 36) (xa 9) (xa 14) (xa 8) (xa 10) (ma 21) (ma 20) (ma 27) (xs (i + 2).toNatClampNeg) (xs (i + 3).toNatClampNeg)
      refine bd (by rw [en, e11, e12, y1]; exact q1) ?_
      refine bg h1 ?_
      refine bg h2 ?_
      refine bg h3 ?_
      refine bd (by rw [m0, m1, mn, a4, a3, a2, a1, a6, a0, y1]; exact q2) ?_
      refine igp eq ?_
      exact hn _ _ _ _ _ _ _ _ ⟨P, R, n, nb, hG, hF, hS, hC, hT, hW, hRl, ⟨r1.mono (by omega), r2.mono (by omega)⟩, hB, hH⟩
    · have hq : q = 0 ∨ q = 1 ∨ q = 2 ∨ q = 3 := by omega
      rcases hq with rfl | rfl | rfl | rfl
      · refine igp (show xi 2 = 0 from f2) ?_
        obtain ⟨lw, tc⟩ := TCk (x1 := (I n)) hL hS hn4 hk rfl f2 f1 (w0 hk)
        obtain ⟨o1, o2, q1, q2, eq, r1, r2⟩ := m_book hn4 tc w0 w1 w2 w3 (by decide) b1 g1 hRd.1 hRd.2 (by omega) (xb 0) (xi 3) (xi 4) (xi 5) (xi 6) (xi 7) (xi 8) 0 (mi 18) (mi 19) (mi 20) (mi 21) (xa 30) (xa 32) (xa 34) (xa 36) (xa 9) (xa 14) (xa 8) (xa 10) (ma 21) (ma 20) (ma 27) (xs (i + 2).toNatClampNeg) (xs (i + 3).toNatClampNeg)
        refine bd (by rw [en, e11, e12, y1]; exact q1) ?_
        refine bg h1 ?_
        refine bg h2 ?_
        refine bg h3 ?_
        refine bd (by rw [m0, m1, mn, a4, a3, a2, a1, a6, a0, y1]; exact q2) ?_
        refine igp eq ?_
        exact hn _ _ _ _ _ _ _ _ ⟨P, R, n, nb, hG, hF, hS, hC, hT, hW, hRl, ⟨r1.mono (by omega), r2.mono (by omega)⟩, hB, hH⟩
      · refine ign (show ¬ (xi 2 = 0) by rw [f2]; decide) ?_
        refine igp (show xi 2 = 1 from f2) ?_
        obtain ⟨lw, tc⟩ := TCk (x1 := (I n)) hL hS hn4 hk rfl f2 f1 (w1 hk)
        obtain ⟨o1, o2, q1, q2, eq, r1, r2⟩ := m_book hn4 tc w0 w1 w2 w3 (by decide) b1 g1 hRd.1 hRd.2 (by omega) (xb 0) (xi 3) (xi 4) (xi 5) (xi 6) (xi 7) (xi 8) 0 (mi 18) (mi 19) (mi 20) (mi 21) (xa 30) (xa 32) (xa 34) (xa 36) (xa 9) (xa 14) (xa 8) (xa 10) (ma 21) (ma 20) (ma 27) (xs (i + 2).toNatClampNeg) (xs (i + 3).toNatClampNeg)
        refine bd (by rw [en, e11, e12, y1]; exact q1) ?_
        refine bg h1 ?_
        refine bg h2 ?_
        refine bg h3 ?_
        refine bd (by rw [m0, m1, mn, a4, a3, a2, a1, a6, a0, y1]; exact q2) ?_
        refine igp eq ?_
        exact hn _ _ _ _ _ _ _ _ ⟨P, R, n, nb, hG, hF, hS, hC, hT, hW, hRl, ⟨r1.mono (by omega), r2.mono (by omega)⟩, hB, hH⟩
      · refine ign (show ¬ (xi 2 = 0) by rw [f2]; decide) ?_
        refine ign (show ¬ (xi 2 = 1) by rw [f2]; decide) ?_
        refine igp (show xi 2 = 2 from f2) ?_
        obtain ⟨lw, tc⟩ := TCk (x1 := (I n)) hL hS hn4 hk rfl f2 f1 (w2 hk)
        obtain ⟨o1, o2, q1, q2, eq, r1, r2⟩ := m_book hn4 tc w0 w1 w2 w3 (by decide) b1 g1 hRd.1 hRd.2 (by omega) (xb 0) (xi 3) (xi 4) (xi 5) (xi 6) (xi 7) (xi 8) 0 (mi 18) (mi 19) (mi 20) (mi 21) (xa 30) (xa 32) (xa 34) (xa 36) (xa 9) (xa 14) (xa 8) (xa 10) (ma 21) (ma 20) (ma 27) (xs (i + 2).toNatClampNeg) (xs (i + 3).toNatClampNeg)
        refine bd (by rw [en, e11, e12, y1]; exact q1) ?_
        refine bg h1 ?_
        refine bg h2 ?_
        refine bg h3 ?_
        refine bd (by rw [m0, m1, mn, a4, a3, a2, a1, a6, a0, y1]; exact q2) ?_
        refine igp eq ?_
        exact hn _ _ _ _ _ _ _ _ ⟨P, R, n, nb, hG, hF, hS, hC, hT, hW, hRl, ⟨r1.mono (by omega), r2.mono (by omega)⟩, hB, hH⟩
      · refine ign (show ¬ (xi 2 = 0) by rw [f2]; decide) ?_
        refine ign (show ¬ (xi 2 = 1) by rw [f2]; decide) ?_
        refine ign (show ¬ (xi 2 = 2) by rw [f2]; decide) ?_
        refine igp (show xi 2 = 3 from f2) ?_
        obtain ⟨lw, tc⟩ := TCk (x1 := (I n)) hL hS hn4 hk rfl f2 f1 (w3 hk)
        obtain ⟨o1, o2, q1, q2, eq, r1, r2⟩ := m_book hn4 tc w0 w1 w2 w3 (by decide) b1 g1 hRd.1 hRd.2 (by omega) (xb 0) (xi 3) (xi 4) (xi 5) (xi 6) (xi 7) (xi 8) 0 (mi 18) (mi 19) (mi 20) (mi 21) (xa 30) (xa 32) (xa 34) (xa 36) (xa 9) (xa 14) (xa 8) (xa 10) (ma 21) (ma 20) (ma 27) (xs (i + 2).toNatClampNeg) (xs (i + 3).toNatClampNeg)
        refine bd (by rw [en, e11, e12, y1]; exact q1) ?_
        refine bg h1 ?_
        refine bg h2 ?_
        refine bg h3 ?_
        refine bd (by rw [m0, m1, mn, a4, a3, a2, a1, a6, a0, y1]; exact q2) ?_
        refine igp eq ?_
        exact hn _ _ _ _ _ _ _ _ ⟨P, R, n, nb, hG, hF, hS, hC, hT, hW, hRl, ⟨r1.mono (by omega), r2.mono (by omega)⟩, hB, hH⟩
  refine ign x1_1 ?_
  by_cases x1_2 : xs (i + 1).toNatClampNeg = 2
  · refine igp x1_2 ?_
    have y1 : xs (i + 1).toNatClampNeg = I 2 := x1_2
    rcases f2 with f2 | ⟨q, hk, f2⟩
    · refine ign (show ¬ (xi 2 = 0) by rw [f2]; decide) ?_
      refine ign (show ¬ (xi 2 = 1) by rw [f2]; decide) ?_
      refine ign (show ¬ (xi 2 = 2) by rw [f2]; decide) ?_
      refine ign (show ¬ (xi 2 = 3) by rw [f2]; decide) ?_
      have tc := TCn (ma 13) (ma 14) (ma 16) (ma 17) (ma 18) (ma 15) hL hS f2 f1 (I n) 0 (fun _ => 0)
      obtain ⟨o1, o2, q1, q2, eq, r1, r2⟩ := m_book hn4 tc w0 w1 w2 w3 (by decide) b1 g2 hRd.1 hRd.2 (by omega) (xb 0) (xi 3) (xi 4) (xi 5) (xi 6) (xi 7) (xi 8) 0 (mi 18) (mi 19) (mi 20) (mi 21) (xa 30) (xa 32) (xa 34) (xa 36) (xa 9) (xa 14) (xa 8) (xa 10) (ma 21) (ma 20) (ma 27) (xs (i + 2).toNatClampNeg) (xs (i + 3).toNatClampNeg)
      refine bd (by rw [en, e11, e12, y1]; exact q1) ?_
      refine bg h1 ?_
      refine bg h2 ?_
      refine bg h3 ?_
      refine bd (by rw [m0, m1, mn, a4, a3, a2, a1, a6, a0, y1]; exact q2) ?_
      refine igp eq ?_
      exact hn _ _ _ _ _ _ _ _ ⟨P, R, n, nb, hG, hF, hS, hC, hT, hW, hRl, ⟨r1.mono (by omega), r2.mono (by omega)⟩, hB, hH⟩
    · have hq : q = 0 ∨ q = 1 ∨ q = 2 ∨ q = 3 := by omega
      rcases hq with rfl | rfl | rfl | rfl
      · refine igp (show xi 2 = 0 from f2) ?_
        obtain ⟨lw, tc⟩ := TCk (x1 := (I n)) hL hS hn4 hk rfl f2 f1 (w0 hk)
        obtain ⟨o1, o2, q1, q2, eq, r1, r2⟩ := m_book hn4 tc w0 w1 w2 w3 (by decide) b1 g2 hRd.1 hRd.2 (by omega) (xb 0) (xi 3) (xi 4) (xi 5) (xi 6) (xi 7) (xi 8) 0 (mi 18) (mi 19) (mi 20) (mi 21) (xa 30) (xa 32) (xa 34) (xa 36) (xa 9) (xa 14) (xa 8) (xa 10) (ma 21) (ma 20) (ma 27) (xs (i + 2).toNatClampNeg) (xs (i + 3).toNatClampNeg)
        refine bd (by rw [en, e11, e12, y1]; exact q1) ?_
        refine bg h1 ?_
        refine bg h2 ?_
        refine bg h3 ?_
        refine bd (by rw [m0, m1, mn, a4, a3, a2, a1, a6, a0, y1]; exact q2) ?_
        refine igp eq ?_
        exact hn _ _ _ _ _ _ _ _ ⟨P, R, n, nb, hG, hF, hS, hC, hT, hW, hRl, ⟨r1.mono (by omega), r2.mono (by omega)⟩, hB, hH⟩
      · refine ign (show ¬ (xi 2 = 0) by rw [f2]; decide) ?_
        refine igp (show xi 2 = 1 from f2) ?_
        obtain ⟨lw, tc⟩ := TCk (x1 := (I n)) hL hS hn4 hk rfl f2 f1 (w1 hk)
        obtain ⟨o1, o2, q1, q2, eq, r1, r2⟩ := m_book hn4 tc w0 w1 w2 w3 (by decide) b1 g2 hRd.1 hRd.2 (by omega) (xb 0) (xi 3) (xi 4) (xi 5) (xi 6) (xi 7) (xi 8) 0 (mi 18) (mi 19) (mi 20) (mi 21) (xa 30) (xa 32) (xa 34) (xa 36) (xa 9) (xa 14) (xa 8) (xa 10) (ma 21) (ma 20) (ma 27) (xs (i + 2).toNatClampNeg) (xs (i + 3).toNatClampNeg)
        refine bd (by rw [en, e11, e12, y1]; exact q1) ?_
        refine bg h1 ?_
        refine bg h2 ?_
        refine bg h3 ?_
        refine bd (by rw [m0, m1, mn, a4, a3, a2, a1, a6, a0, y1]; exact q2) ?_
        refine igp eq ?_
        exact hn _ _ _ _ _ _ _ _ ⟨P, R, n, nb, hG, hF, hS, hC, hT, hW, hRl, ⟨r1.mono (by omega), r2.mono (by omega)⟩, hB, hH⟩
      · refine ign (show ¬ (xi 2 = 0) by rw [f2]; decide) ?_
        refine ign (show ¬ (xi 2 = 1) by rw [f2]; decide) ?_
        refine igp (show xi 2 = 2 from f2) ?_
        obtain ⟨lw, tc⟩ := TCk (x1 := (I n)) hL hS hn4 hk rfl f2 f1 (w2 hk)
        obtain ⟨o1, o2, q1, q2, eq, r1, r2⟩ := m_book hn4 tc w0 w1 w2 w3 (by decide) b1 g2 hRd.1 hRd.2 (by omega) (xb 0) (xi 3) (xi 4) (xi 5) (xi 6) (xi 7) (xi 8) 0 (mi 18) (mi 19) (mi 20) (mi 21) (xa 30) (xa 32) (xa 34) (xa 36) (xa 9) (xa 14) (xa 8) (xa 10) (ma 21) (ma 20) (ma 27) (xs (i + 2).toNatClampNeg) (xs (i + 3).toNatClampNeg)
        refine bd (by rw [en, e11, e12, y1]; exact q1) ?_
        refine bg h1 ?_
        refine bg h2 ?_
        refine bg h3 ?_
        refine bd (by rw [m0, m1, mn, a4, a3, a2, a1, a6, a0, y1]; exact q2) ?_
        refine igp eq ?_
        exact hn _ _ _ _ _ _ _ _ ⟨P, R, n, nb, hG, hF, hS, hC, hT, hW, hRl, ⟨r1.mono (by omega), r2.mono (by omega)⟩, hB, hH⟩
      · refine ign (show ¬ (xi 2 = 0) by rw [f2]; decide) ?_
        refine ign (show ¬ (xi 2 = 1) by rw [f2]; decide) ?_
        refine ign (show ¬ (xi 2 = 2) by rw [f2]; decide) ?_
        refine igp (show xi 2 = 3 from f2) ?_
        obtain ⟨lw, tc⟩ := TCk (x1 := (I n)) hL hS hn4 hk rfl f2 f1 (w3 hk)
        obtain ⟨o1, o2, q1, q2, eq, r1, r2⟩ := m_book hn4 tc w0 w1 w2 w3 (by decide) b1 g2 hRd.1 hRd.2 (by omega) (xb 0) (xi 3) (xi 4) (xi 5) (xi 6) (xi 7) (xi 8) 0 (mi 18) (mi 19) (mi 20) (mi 21) (xa 30) (xa 32) (xa 34) (xa 36) (xa 9) (xa 14) (xa 8) (xa 10) (ma 21) (ma 20) (ma 27) (xs (i + 2).toNatClampNeg) (xs (i + 3).toNatClampNeg)
        refine bd (by rw [en, e11, e12, y1]; exact q1) ?_
        refine bg h1 ?_
        refine bg h2 ?_
        refine bg h3 ?_
        refine bd (by rw [m0, m1, mn, a4, a3, a2, a1, a6, a0, y1]; exact q2) ?_
        refine igp eq ?_
        exact hn _ _ _ _ _ _ _ _ ⟨P, R, n, nb, hG, hF, hS, hC, hT, hW, hRl, ⟨r1.mono (by omega), r2.mono (by omega)⟩, hB, hH⟩
  refine ign x1_2 ?_
  by_cases x1_3 : xs (i + 1).toNatClampNeg = 3
  · refine igp x1_3 ?_
    have y1 : xs (i + 1).toNatClampNeg = I 3 := x1_3
    rcases f2 with f2 | ⟨q, hk, f2⟩
    · refine ign (show ¬ (xi 2 = 0) by rw [f2]; decide) ?_
      refine ign (show ¬ (xi 2 = 1) by rw [f2]; decide) ?_
      refine ign (show ¬ (xi 2 = 2) by rw [f2]; decide) ?_
      refine ign (show ¬ (xi 2 = 3) by rw [f2]; decide) ?_
      have tc := TCn (ma 13) (ma 14) (ma 16) (ma 17) (ma 18) (ma 15) hL hS f2 f1 (I n) 0 (fun _ => 0)
      obtain ⟨o1, o2, q1, q2, eq, r1, r2⟩ := m_book hn4 tc w0 w1 w2 w3 (by decide) b1 g3 hRd.1 hRd.2 (by omega) (xb 0) (xi 3) (xi 4) (xi 5) (xi 6) (xi 7) (xi 8) 0 (mi 18) (mi 19) (mi 20) (mi 21) (xa 30) (xa 32) (xa 34) (xa 36) (xa 9) (xa 14) (xa 8) (xa 10) (ma 21) (ma 20) (ma 27) (xs (i + 2).toNatClampNeg) (xs (i + 3).toNatClampNeg)
      refine bd (by rw [en, e11, e12, y1]; exact q1) ?_
      refine bg h1 ?_
      refine bg h2 ?_
      refine bg h3 ?_
      refine bd (by rw [m0, m1, mn, a4, a3, a2, a1, a6, a0, y1]; exact q2) ?_
      refine igp eq ?_
      exact hn _ _ _ _ _ _ _ _ ⟨P, R, n, nb, hG, hF, hS, hC, hT, hW, hRl, ⟨r1.mono (by omega), r2.mono (by omega)⟩, hB, hH⟩
    · have hq : q = 0 ∨ q = 1 ∨ q = 2 ∨ q = 3 := by omega
      rcases hq with rfl | rfl | rfl | rfl
      · refine igp (show xi 2 = 0 from f2) ?_
        obtain ⟨lw, tc⟩ := TCk (x1 := (I n)) hL hS hn4 hk rfl f2 f1 (w0 hk)
        obtain ⟨o1, o2, q1, q2, eq, r1, r2⟩ := m_book hn4 tc w0 w1 w2 w3 (by decide) b1 g3 hRd.1 hRd.2 (by omega) (xb 0) (xi 3) (xi 4) (xi 5) (xi 6) (xi 7) (xi 8) 0 (mi 18) (mi 19) (mi 20) (mi 21) (xa 30) (xa 32) (xa 34) (xa 36) (xa 9) (xa 14) (xa 8) (xa 10) (ma 21) (ma 20) (ma 27) (xs (i + 2).toNatClampNeg) (xs (i + 3).toNatClampNeg)
        refine bd (by rw [en, e11, e12, y1]; exact q1) ?_
        refine bg h1 ?_
        refine bg h2 ?_
        refine bg h3 ?_
        refine bd (by rw [m0, m1, mn, a4, a3, a2, a1, a6, a0, y1]; exact q2) ?_
        refine igp eq ?_
        exact hn _ _ _ _ _ _ _ _ ⟨P, R, n, nb, hG, hF, hS, hC, hT, hW, hRl, ⟨r1.mono (by omega), r2.mono (by omega)⟩, hB, hH⟩
      · refine ign (show ¬ (xi 2 = 0) by rw [f2]; decide) ?_
        refine igp (show xi 2 = 1 from f2) ?_
        obtain ⟨lw, tc⟩ := TCk (x1 := (I n)) hL hS hn4 hk rfl f2 f1 (w1 hk)
        obtain ⟨o1, o2, q1, q2, eq, r1, r2⟩ := m_book hn4 tc w0 w1 w2 w3 (by decide) b1 g3 hRd.1 hRd.2 (by omega) (xb 0) (xi 3) (xi 4) (xi 5) (xi 6) (xi 7) (xi 8) 0 (mi 18) (mi 19) (mi 20) (mi 21) (xa 30) (xa 32) (xa 34) (xa 36) (xa 9) (xa 14) (xa 8) (xa 10) (ma 21) (ma 20) (ma 27) (xs (i + 2).toNatClampNeg) (xs (i + 3).toNatClampNeg)
        refine bd (by rw [en, e11, e12, y1]; exact q1) ?_
        refine bg h1 ?_
        refine bg h2 ?_
        refine bg h3 ?_
        refine bd (by rw [m0, m1, mn, a4, a3, a2, a1, a6, a0, y1]; exact q2) ?_
        refine igp eq ?_
        exact hn _ _ _ _ _ _ _ _ ⟨P, R, n, nb, hG, hF, hS, hC, hT, hW, hRl, ⟨r1.mono (by omega), r2.mono (by omega)⟩, hB, hH⟩
      · refine ign (show ¬ (xi 2 = 0) by rw [f2]; decide) ?_
        refine ign (show ¬ (xi 2 = 1) by rw [f2]; decide) ?_
        refine igp (show xi 2 = 2 from f2) ?_
        obtain ⟨lw, tc⟩ := TCk (x1 := (I n)) hL hS hn4 hk rfl f2 f1 (w2 hk)
        obtain ⟨o1, o2, q1, q2, eq, r1, r2⟩ := m_book hn4 tc w0 w1 w2 w3 (by decide) b1 g3 hRd.1 hRd.2 (by omega) (xb 0) (xi 3) (xi 4) (xi 5) (xi 6) (xi 7) (xi 8) 0 (mi 18) (mi 19) (mi 20) (mi 21) (xa 30) (xa 32) (xa 34) (xa 36) (xa 9) (xa 14) (xa 8) (xa 10) (ma 21) (ma 20) (ma 27) (xs (i + 2).toNatClampNeg) (xs (i + 3).toNatClampNeg)
        refine bd (by rw [en, e11, e12, y1]; exact q1) ?_
        refine bg h1 ?_
        refine bg h2 ?_
        refine bg h3 ?_
        refine bd (by rw [m0, m1, mn, a4, a3, a2, a1, a6, a0, y1]; exact q2) ?_
        refine igp eq ?_
        exact hn _ _ _ _ _ _ _ _ ⟨P, R, n, nb, hG, hF, hS, hC, hT, hW, hRl, ⟨r1.mono (by omega), r2.mono (by omega)⟩, hB, hH⟩
      · refine ign (show ¬ (xi 2 = 0) by rw [f2]; decide) ?_
        refine ign (show ¬ (xi 2 = 1) by rw [f2]; decide) ?_
        refine ign (show ¬ (xi 2 = 2) by rw [f2]; decide) ?_
        refine igp (show xi 2 = 3 from f2) ?_
        obtain ⟨lw, tc⟩ := TCk (x1 := (I n)) hL hS hn4 hk rfl f2 f1 (w3 hk)
        obtain ⟨o1, o2, q1, q2, eq, r1, r2⟩ := m_book hn4 tc w0 w1 w2 w3 (by decide) b1 g3 hRd.1 hRd.2 (by omega) (xb 0) (xi 3) (xi 4) (xi 5) (xi 6) (xi 7) (xi 8) 0 (mi 18) (mi 19) (mi 20) (mi 21) (xa 30) (xa 32) (xa 34) (xa 36) (xa 9) (xa 14) (xa 8) (xa 10) (ma 21) (ma 20) (ma 27) (xs (i + 2).toNatClampNeg) (xs (i + 3).toNatClampNeg)
        refine bd (by rw [en, e11, e12, y1]; exact q1) ?_
        refine bg h1 ?_
        refine bg h2 ?_
        refine bg h3 ?_
        refine bd (by rw [m0, m1, mn, a4, a3, a2, a1, a6, a0, y1]; exact q2) ?_
        refine igp eq ?_
        exact hn _ _ _ _ _ _ _ _ ⟨P, R, n, nb, hG, hF, hS, hC, hT, hW, hRl, ⟨r1.mono (by omega), r2.mono (by omega)⟩, hB, hH⟩
  refine ign x1_3 ?_
  by_cases x1_4 : xs (i + 1).toNatClampNeg = 4
  · refine igp x1_4 ?_
    have y1 : xs (i + 1).toNatClampNeg = I 4 := x1_4
    rcases f2 with f2 | ⟨q, hk, f2⟩
    · refine ign (show ¬ (xi 2 = 0) by rw [f2]; decide) ?_
      refine ign (show ¬ (xi 2 = 1) by rw [f2]; decide) ?_
      refine ign (show ¬ (xi 2 = 2) by rw [f2]; decide) ?_
      refine ign (show ¬ (xi 2 = 3) by rw [f2]; decide) ?_
      have tc := TCn (ma 13) (ma 14) (ma 16) (ma 17) (ma 18) (ma 15) hL hS f2 f1 (I n) 0 (fun _ => 0)
      obtain ⟨o1, o2, q1, q2, eq, r1, r2⟩ := m_book hn4 tc w0 w1 w2 w3 (by decide) b1 g4 hRd.1 hRd.2 (by omega) (xb 0) (xi 3) (xi 4) (xi 5) (xi 6) (xi 7) (xi 8) 0 (mi 18) (mi 19) (mi 20) (mi 21) (xa 30) (xa 32) (xa 34) (xa 36) (xa 9) (xa 14) (xa 8) (xa 10) (ma 21) (ma 20) (ma 27) (xs (i + 2).toNatClampNeg) (xs (i + 3).toNatClampNeg)
      refine bd (by rw [en, e11, e12, y1]; exact q1) ?_
      refine bg h1 ?_
      refine bg h2 ?_
      refine bg h3 ?_
      refine bd (by rw [m0, m1, mn, a4, a3, a2, a1, a6, a0, y1]; exact q2) ?_
      refine igp eq ?_
      exact hn _ _ _ _ _ _ _ _ ⟨P, R, n, nb, hG, hF, hS, hC, hT, hW, hRl, ⟨r1.mono (by omega), r2.mono (by omega)⟩, hB, hH⟩
    · have hq : q = 0 ∨ q = 1 ∨ q = 2 ∨ q = 3 := by omega
      rcases hq with rfl | rfl | rfl | rfl
      · refine igp (show xi 2 = 0 from f2) ?_
        obtain ⟨lw, tc⟩ := TCk (x1 := (I n)) hL hS hn4 hk rfl f2 f1 (w0 hk)
        obtain ⟨o1, o2, q1, q2, eq, r1, r2⟩ := m_book hn4 tc w0 w1 w2 w3 (by decide) b1 g4 hRd.1 hRd.2 (by omega) (xb 0) (xi 3) (xi 4) (xi 5) (xi 6) (xi 7) (xi 8) 0 (mi 18) (mi 19) (mi 20) (mi 21) (xa 30) (xa 32) (xa 34) (xa 36) (xa 9) (xa 14) (xa 8) (xa 10) (ma 21) (ma 20) (ma 27) (xs (i + 2).toNatClampNeg) (xs (i + 3).toNatClampNeg)
        refine bd (by rw [en, e11, e12, y1]; exact q1) ?_
        refine bg h1 ?_
        refine bg h2 ?_
        refine bg h3 ?_
        refine bd (by rw [m0, m1, mn, a4, a3, a2, a1, a6, a0, y1]; exact q2) ?_
        refine igp eq ?_
        exact hn _ _ _ _ _ _ _ _ ⟨P, R, n, nb, hG, hF, hS, hC, hT, hW, hRl, ⟨r1.mono (by omega), r2.mono (by omega)⟩, hB, hH⟩
      · refine ign (show ¬ (xi 2 = 0) by rw [f2]; decide) ?_
        refine igp (show xi 2 = 1 from f2) ?_
        obtain ⟨lw, tc⟩ := TCk (x1 := (I n)) hL hS hn4 hk rfl f2 f1 (w1 hk)
        obtain ⟨o1, o2, q1, q2, eq, r1, r2⟩ := m_book hn4 tc w0 w1 w2 w3 (by decide) b1 g4 hRd.1 hRd.2 (by omega) (xb 0) (xi 3) (xi 4) (xi 5) (xi 6) (xi 7) (xi 8) 0 (mi 18) (mi 19) (mi 20) (mi 21) (xa 30) (xa 32) (xa 34) (xa 36) (xa 9) (xa 14) (xa 8) (xa 10) (ma 21) (ma 20) (ma 27) (xs (i + 2).toNatClampNeg) (xs (i + 3).toNatClampNeg)
        refine bd (by rw [en, e11, e12, y1]; exact q1) ?_
        refine bg h1 ?_
        refine bg h2 ?_
        refine bg h3 ?_
        refine bd (by rw [m0, m1, mn, a4, a3, a2, a1, a6, a0, y1]; exact q2) ?_
        refine igp eq ?_
        exact hn _ _ _ _ _ _ _ _ ⟨P, R, n, nb, hG, hF, hS, hC, hT, hW, hRl, ⟨r1.mono (by omega), r2.mono (by omega)⟩, hB, hH⟩
      · refine ign (show ¬ (xi 2 = 0) by rw [f2]; decide) ?_
        refine ign (show ¬ (xi 2 = 1) by rw [f2]; decide) ?_
        refine igp (show xi 2 = 2 from f2) ?_
        obtain ⟨lw, tc⟩ := TCk (x1 := (I n)) hL hS hn4 hk rfl f2 f1 (w2 hk)
        obtain ⟨o1, o2, q1, q2, eq, r1, r2⟩ := m_book hn4 tc w0 w1 w2 w3 (by decide) b1 g4 hRd.1 hRd.2 (by omega) (xb 0) (xi 3) (xi 4) (xi 5) (xi 6) (xi 7) (xi 8) 0 (mi 18) (mi 19) (mi 20) (mi 21) (xa 30) (xa 32) (xa 34) (xa 36) (xa 9) (xa 14) (xa 8) (xa 10) (ma 21) (ma 20) (ma 27) (xs (i + 2).toNatClampNeg) (xs (i + 3).toNatClampNeg)
        refine bd (by rw [en, e11, e12, y1]; exact q1) ?_
        refine bg h1 ?_
        refine bg h2 ?_
        refine bg h3 ?_
        refine bd (by rw [m0, m1, mn, a4, a3, a2, a1, a6, a0, y1]; exact q2) ?_
        refine igp eq ?_
        exact hn _ _ _ _ _ _ _ _ ⟨P, R, n, nb, hG, hF, hS, hC, hT, hW, hRl, ⟨r1.mono (by omega), r2.mono (by omega)⟩, hB, hH⟩
      · refine ign (show ¬ (xi 2 = 0) by rw [f2]; decide) ?_
        refine ign (show ¬ (xi 2 = 1) by rw [f2]; decide) ?_
        refine ign (show ¬ (xi 2 = 2) by rw [f2]; decide) ?_
        refine igp (show xi 2 = 3 from f2) ?_
        obtain ⟨lw, tc⟩ := TCk (x1 := (I n)) hL hS hn4 hk rfl f2 f1 (w3 hk)
        obtain ⟨o1, o2, q1, q2, eq, r1, r2⟩ := m_book hn4 tc w0 w1 w2 w3 (by decide) b1 g4 hRd.1 hRd.2 (by omega) (xb 0) (xi 3) (xi 4) (xi 5) (xi 6) (xi 7) (xi 8) 0 (mi 18) (mi 19) (mi 20) (mi 21) (xa 30) (xa 32) (xa 34) (xa 36) (xa 9) (xa 14) (xa 8) (xa 10) (ma 21) (ma 20) (ma 27) (xs (i + 2).toNatClampNeg) (xs (i + 3).toNatClampNeg)
        refine bd (by rw [en, e11, e12, y1]; exact q1) ?_
        refine bg h1 ?_
        refine bg h2 ?_
        refine bg h3 ?_
        refine bd (by rw [m0, m1, mn, a4, a3, a2, a1, a6, a0, y1]; exact q2) ?_
        refine igp eq ?_
        exact hn _ _ _ _ _ _ _ _ ⟨P, R, n, nb, hG, hF, hS, hC, hT, hW, hRl, ⟨r1.mono (by omega), r2.mono (by omega)⟩, hB, hH⟩
  refine ign x1_4 ?_
  by_cases x1_5 : xs (i + 1).toNatClampNeg = 5
  · refine igp x1_5 ?_
    have y1 : xs (i + 1).toNatClampNeg = I 5 := x1_5
    rcases f2 with f2 | ⟨q, hk, f2⟩
    · refine ign (show ¬ (xi 2 = 0) by rw [f2]; decide) ?_
      refine ign (show ¬ (xi 2 = 1) by rw [f2]; decide) ?_
      refine ign (show ¬ (xi 2 = 2) by rw [f2]; decide) ?_
      refine ign (show ¬ (xi 2 = 3) by rw [f2]; decide) ?_
      have tc := TCn (ma 13) (ma 14) (ma 16) (ma 17) (ma 18) (ma 15) hL hS f2 f1 (I n) 0 (fun _ => 0)
      obtain ⟨o1, o2, q1, q2, eq, r1, r2⟩ := m_book hn4 tc w0 w1 w2 w3 (by decide) b1 g5 hRd.1 hRd.2 (by omega) (xb 0) (xi 3) (xi 4) (xi 5) (xi 6) (xi 7) (xi 8) 0 (mi 18) (mi 19) (mi 20) (mi 21) (xa 30) (xa 32) (xa 34) (xa 36) (xa 9) (xa 14) (xa 8) (xa 10) (ma 21) (ma 20) (ma 27) (xs (i + 2).toNatClampNeg) (xs (i + 3).toNatClampNeg)
      refine bd (by rw [en, e11, e12, y1]; exact q1) ?_
      refine bg h1 ?_
      refine bg h2 ?_
      refine bg h3 ?_
      refine bd (by rw [m0, m1, mn, a4, a3, a2, a1, a6, a0, y1]; exact q2) ?_
      refine igp eq ?_
      exact hn _ _ _ _ _ _ _ _ ⟨P, R, n, nb, hG, hF, hS, hC, hT, hW, hRl, ⟨r1.mono (by omega), r2.mono (by omega)⟩, hB, hH⟩
    · have hq : q = 0 ∨ q = 1 ∨ q = 2 ∨ q = 3 := by omega
      rcases hq with rfl | rfl | rfl | rfl
      · refine igp (show xi 2 = 0 from f2) ?_
        obtain ⟨lw, tc⟩ := TCk (x1 := (I n)) hL hS hn4 hk rfl f2 f1 (w0 hk)
        obtain ⟨o1, o2, q1, q2, eq, r1, r2⟩ := m_book hn4 tc w0 w1 w2 w3 (by decide) b1 g5 hRd.1 hRd.2 (by omega) (xb 0) (xi 3) (xi 4) (xi 5) (xi 6) (xi 7) (xi 8) 0 (mi 18) (mi 19) (mi 20) (mi 21) (xa 30) (xa 32) (xa 34) (xa 36) (xa 9) (xa 14) (xa 8) (xa 10) (ma 21) (ma 20) (ma 27) (xs (i + 2).toNatClampNeg) (xs (i + 3).toNatClampNeg)
        refine bd (by rw [en, e11, e12, y1]; exact q1) ?_
        refine bg h1 ?_
        refine bg h2 ?_
        refine bg h3 ?_
        refine bd (by rw [m0, m1, mn, a4, a3, a2, a1, a6, a0, y1]; exact q2) ?_
        refine igp eq ?_
        exact hn _ _ _ _ _ _ _ _ ⟨P, R, n, nb, hG, hF, hS, hC, hT, hW, hRl, ⟨r1.mono (by omega), r2.mono (by omega)⟩, hB, hH⟩
      · refine ign (show ¬ (xi 2 = 0) by rw [f2]; decide) ?_
        refine igp (show xi 2 = 1 from f2) ?_
        obtain ⟨lw, tc⟩ := TCk (x1 := (I n)) hL hS hn4 hk rfl f2 f1 (w1 hk)
        obtain ⟨o1, o2, q1, q2, eq, r1, r2⟩ := m_book hn4 tc w0 w1 w2 w3 (by decide) b1 g5 hRd.1 hRd.2 (by omega) (xb 0) (xi 3) (xi 4) (xi 5) (xi 6) (xi 7) (xi 8) 0 (mi 18) (mi 19) (mi 20) (mi 21) (xa 30) (xa 32) (xa 34) (xa 36) (xa 9) (xa 14) (xa 8) (xa 10) (ma 21) (ma 20) (ma 27) (xs (i + 2).toNatClampNeg) (xs (i + 3).toNatClampNeg)
        refine bd (by rw [en, e11, e12, y1]; exact q1) ?_
        refine bg h1 ?_
        refine bg h2 ?_
        refine bg h3 ?_
        refine bd (by rw [m0, m1, mn, a4, a3, a2, a1, a6, a0, y1]; exact q2) ?_
        refine igp eq ?_
        exact hn _ _ _ _ _ _ _ _ ⟨P, R, n, nb, hG, hF, hS, hC, hT, hW, hRl, ⟨r1.mono (by omega), r2.mono (by omega)⟩, hB, hH⟩
      · refine ign (show ¬ (xi 2 = 0) by rw [f2]; decide) ?_
        refine ign (show ¬ (xi 2 = 1) by rw [f2]; decide) ?_
        refine igp (show xi 2 = 2 from f2) ?_
        obtain ⟨lw, tc⟩ := TCk (x1 := (I n)) hL hS hn4 hk rfl f2 f1 (w2 hk)
        obtain ⟨o1, o2, q1, q2, eq, r1, r2⟩ := m_book hn4 tc w0 w1 w2 w3 (by decide) b1 g5 hRd.1 hRd.2 (by omega) (xb 0) (xi 3) (xi 4) (xi 5) (xi 6) (xi 7) (xi 8) 0 (mi 18) (mi 19) (mi 20) (mi 21) (xa 30) (xa 32) (xa 34) (xa 36) (xa 9) (xa 14) (xa 8) (xa 10) (ma 21) (ma 20) (ma 27) (xs (i + 2).toNatClampNeg) (xs (i + 3).toNatClampNeg)
        refine bd (by rw [en, e11, e12, y1]; exact q1) ?_
        refine bg h1 ?_
        refine bg h2 ?_
        refine bg h3 ?_
        refine bd (by rw [m0, m1, mn, a4, a3, a2, a1, a6, a0, y1]; exact q2) ?_
        refine igp eq ?_
        exact hn _ _ _ _ _ _ _ _ ⟨P, R, n, nb, hG, hF, hS, hC, hT, hW, hRl, ⟨r1.mono (by omega), r2.mono (by omega)⟩, hB, hH⟩
      · refine ign (show ¬ (xi 2 = 0) by rw [f2]; decide) ?_
        refine ign (show ¬ (xi 2 = 1) by rw [f2]; decide) ?_
        refine ign (show ¬ (xi 2 = 2) by rw [f2]; decide) ?_
        refine igp (show xi 2 = 3 from f2) ?_
        obtain ⟨lw, tc⟩ := TCk (x1 := (I n)) hL hS hn4 hk rfl f2 f1 (w3 hk)
        obtain ⟨o1, o2, q1, q2, eq, r1, r2⟩ := m_book hn4 tc w0 w1 w2 w3 (by decide) b1 g5 hRd.1 hRd.2 (by omega) (xb 0) (xi 3) (xi 4) (xi 5) (xi 6) (xi 7) (xi 8) 0 (mi 18) (mi 19) (mi 20) (mi 21) (xa 30) (xa 32) (xa 34) (xa 36) (xa 9) (xa 14) (xa 8) (xa 10) (ma 21) (ma 20) (ma 27) (xs (i + 2).toNatClampNeg) (xs (i + 3).toNatClampNeg)
        refine bd (by rw [en, e11, e12, y1]; exact q1) ?_
        refine bg h1 ?_
        refine bg h2 ?_
        refine bg h3 ?_
        refine bd (by rw [m0, m1, mn, a4, a3, a2, a1, a6, a0, y1]; exact q2) ?_
        refine igp eq ?_
        exact hn _ _ _ _ _ _ _ _ ⟨P, R, n, nb, hG, hF, hS, hC, hT, hW, hRl, ⟨r1.mono (by omega), r2.mono (by omega)⟩, hB, hH⟩
  refine ign x1_5 ?_
  obtain ⟨d1, d2⟩ := shO x1_0 x1_1 x1_2 x1_3 x1_4 x1_5
  have q1 := (o8 d2 (xs (i + 2).toNatClampNeg) (xs (i + 3).toNatClampNeg) 0).2.2.2.2.2.2
  have q2 : x9_book (mi 0) (mi 1) (mi 4) (mi 5) (mi 6) (mi 7) (mi 10) (mi 11) (mi 18) (mi 19) (mi 20) (mi 21) (ml 0) (ma 21) (ma 4) (ma 33) (ma 3) (ma 2) (ma 34) (ma 16) (ma 17) (ma 18) (ma 15) (ma 13) (ma 20) (ma 1) (ma 6) (ma 0) (ma 27) (ma 14) (xs (i + 1).toNatClampNeg) (xs (i + 2).toNatClampNeg) (xs (i + 3).toNatClampNeg) = some (-2000000000, mi 18, mi 19, mi 20, mi 21, ma 21, ma 20, ma 27) := by unfold x9_book; rw [d1]; rfl
  refine bd q1 ?_
  refine bg h1 ?_
  refine bg h2 ?_
  refine bg h3 ?_
  refine bd q2 ?_
  refine igp rfl ?_
  exact hn _ _ _ _ _ _ _ _ ⟨P, R, n, nb, hG, hF, hS, hC, hT, hW, hRl, hRd.up, hB, hH⟩

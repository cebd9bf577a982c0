/-! the law's cases law and rule (laid by mkinv.py) -/
theorem k_c8 : Case xL_c8 := by
  intro next L xs i c xi xb xa xl mi mb ma ml h hn h1 h2 h3 h4 h5 hc
  obtain ⟨P, R, n, nb, hG, hF, hS, hC, hT, hW, hRl, hRd, hB, hH⟩ := h
  have hG' := hG
  obtain ⟨⟨e11, m0, e12, m1⟩, hL, hro, hpu, a0, a1, a2, a3, a4, a5, a6⟩ := hG'
  have hRl0 := hRl
  obtain ⟨hb, hrul⟩ := hRl0
  have hW0 := hW
  obtain ⟨⟨hn4, en, mn, hfo⟩, w0, w1, w2, w3⟩ := hW0
  obtain ⟨r, tl1, nx, rl1, ra1, rf1, sz1, uw1, st1, good, nm, fed1, at1, cod1, wai1, opn1, brk1, asked1, lF1, lM1, lT1, ls1, op1, val1, wts1, q1, q2, hT1, hcase, hfr, hno⟩ := m_law hn4 hT (xi 17) (xi 18) (xi 19) (xi 21) (xb 2) (xa 25) (mi 13) (mi 14) (mi 15) (mi 16) (mi 17) (mb 1) (ma 16) (ma 17) (ma 18) (ma 15) (ma 13) (ma 14) (ma 19)
  have hn5 : n = 0 ∨ n = 1 ∨ n = 2 ∨ n = 3 ∨ n = 4 := by omega
  unfold xL_c8
  rcases hn5 with rfl | rfl | rfl | rfl | rfl
  · refine igp (show xi 1 = 0 from en) ?_
    refine bd (by rw [en]; exact q1) ?_
    obtain ⟨fr1, fr2⟩ := hfr (by decide)
    rcases hcase with ⟨rfl, hx, hm⟩ | ⟨rfl, hlt, hx, hm, hlaw⟩
    · refine ign (show ¬ (false = true) by decide) ?_
      unfold xL_c8r
      refine bd (by rw [mn]; exact q2) ?_
      refine igp rfl ?_
      exact hn _ _ _ _ _ _ _ _ ⟨P, R, 0, nb, hG, hF, hS, hC, hT1, ⟨⟨hn4, hx, hm, hfo⟩, fun h => (w0 h).frame (by omega) fr1 fr2, fun h => (w1 h).frame (by omega) fr1 fr2, fun h => (w2 h).frame (by omega) fr1 fr2, fun h => (w3 h).frame (by omega) fr1 fr2⟩, ⟨hb, fun h => (hrul h).frame (by decide) fr1 fr2⟩, hRd.up, hB, hH⟩
    · refine igp (show true = true from rfl) ?_
      unfold xL_c8r
      refine bd (by rw [mn]; exact q2) ?_
      refine igp rfl ?_
      exact hn _ _ _ _ _ _ _ _ ⟨P, R, 1, nb, hG, hF, hS, hC, hT1, ⟨⟨by decide, hx, hm, hfo.up⟩, fun _ => hlaw, fun h => absurd h (by omega), fun h => absurd h (by omega), fun h => absurd h (by omega)⟩, ⟨hb, fun h => (hrul h).frame (by decide) fr1 fr2⟩, hRd.up, hB, hH⟩
  · refine ign (show ¬ (xi 1 = 0) by rw [en]; decide) ?_
    refine igp (show xi 1 = 1 from en) ?_
    refine bd (by rw [en]; exact q1) ?_
    obtain ⟨fr1, fr2⟩ := hfr (by decide)
    rcases hcase with ⟨rfl, hx, hm⟩ | ⟨rfl, hlt, hx, hm, hlaw⟩
    · refine ign (show ¬ (false = true) by decide) ?_
      unfold xL_c8r
      refine bd (by rw [mn]; exact q2) ?_
      refine igp rfl ?_
      exact hn _ _ _ _ _ _ _ _ ⟨P, R, 1, nb, hG, hF, hS, hC, hT1, ⟨⟨hn4, hx, hm, hfo⟩, fun h => (w0 h).frame (by omega) fr1 fr2, fun h => (w1 h).frame (by omega) fr1 fr2, fun h => (w2 h).frame (by omega) fr1 fr2, fun h => (w3 h).frame (by omega) fr1 fr2⟩, ⟨hb, fun h => (hrul h).frame (by decide) fr1 fr2⟩, hRd.up, hB, hH⟩
    · refine igp (show true = true from rfl) ?_
      unfold xL_c8r
      refine bd (by rw [mn]; exact q2) ?_
      refine igp rfl ?_
      exact hn _ _ _ _ _ _ _ _ ⟨P, R, 2, nb, hG, hF, hS, hC, hT1, ⟨⟨by decide, hx, hm, hfo.up⟩, fun _ => (w0 (by decide)).frame (by omega) fr1 fr2, fun _ => hlaw, fun h => absurd h (by omega), fun h => absurd h (by omega)⟩, ⟨hb, fun h => (hrul h).frame (by decide) fr1 fr2⟩, hRd.up, hB, hH⟩
  · refine ign (show ¬ (xi 1 = 0) by rw [en]; decide) ?_
    refine ign (show ¬ (xi 1 = 1) by rw [en]; decide) ?_
    refine igp (show xi 1 = 2 from en) ?_
    refine bd (by rw [en]; exact q1) ?_
    obtain ⟨fr1, fr2⟩ := hfr (by decide)
    rcases hcase with ⟨rfl, hx, hm⟩ | ⟨rfl, hlt, hx, hm, hlaw⟩
    · refine ign (show ¬ (false = true) by decide) ?_
      unfold xL_c8r
      refine bd (by rw [mn]; exact q2) ?_
      refine igp rfl ?_
      exact hn _ _ _ _ _ _ _ _ ⟨P, R, 2, nb, hG, hF, hS, hC, hT1, ⟨⟨hn4, hx, hm, hfo⟩, fun h => (w0 h).frame (by omega) fr1 fr2, fun h => (w1 h).frame (by omega) fr1 fr2, fun h => (w2 h).frame (by omega) fr1 fr2, fun h => (w3 h).frame (by omega) fr1 fr2⟩, ⟨hb, fun h => (hrul h).frame (by decide) fr1 fr2⟩, hRd.up, hB, hH⟩
    · refine igp (show true = true from rfl) ?_
      unfold xL_c8r
      refine bd (by rw [mn]; exact q2) ?_
      refine igp rfl ?_
      exact hn _ _ _ _ _ _ _ _ ⟨P, R, 3, nb, hG, hF, hS, hC, hT1, ⟨⟨by decide, hx, hm, hfo.up⟩, fun _ => (w0 (by decide)).frame (by omega) fr1 fr2, fun _ => (w1 (by decide)).frame (by omega) fr1 fr2, fun _ => hlaw, fun h => absurd h (by omega)⟩, ⟨hb, fun h => (hrul h).frame (by decide) fr1 fr2⟩, hRd.up, hB, hH⟩
  · refine ign (show ¬ (xi 1 = 0) by rw [en]; decide) ?_
    refine ign (show ¬ (xi 1 = 1) by rw [en]; decide) ?_
    refine ign (show ¬ (xi 1 = 2) by rw [en]; decide) ?_
    refine igp (show xi 1 = 3 from en) ?_
    refine bd (by rw [en]; exact q1) ?_
    obtain ⟨fr1, fr2⟩ := hfr (by decide)
    rcases hcase with ⟨rfl, hx, hm⟩ | ⟨rfl, hlt, hx, hm, hlaw⟩
    · refine ign (show ¬ (false = true) by decide) ?_
      unfold xL_c8r
      refine bd (by rw [mn]; exact q2) ?_
      refine igp rfl ?_
      exact hn _ _ _ _ _ _ _ _ ⟨P, R, 3, nb, hG, hF, hS, hC, hT1, ⟨⟨hn4, hx, hm, hfo⟩, fun h => (w0 h).frame (by omega) fr1 fr2, fun h => (w1 h).frame (by omega) fr1 fr2, fun h => (w2 h).frame (by omega) fr1 fr2, fun h => (w3 h).frame (by omega) fr1 fr2⟩, ⟨hb, fun h => (hrul h).frame (by decide) fr1 fr2⟩, hRd.up, hB, hH⟩
    · refine igp (show true = true from rfl) ?_
      unfold xL_c8r
      refine bd (by rw [mn]; exact q2) ?_
      refine igp rfl ?_
      exact hn _ _ _ _ _ _ _ _ ⟨P, R, 4, nb, hG, hF, hS, hC, hT1, ⟨⟨by decide, hx, hm, hfo.up⟩, fun _ => (w0 (by decide)).frame (by omega) fr1 fr2, fun _ => (w1 (by decide)).frame (by omega) fr1 fr2, fun _ => (w2 (by decide)).frame (by omega) fr1 fr2, fun _ => hlaw⟩, ⟨hb, fun h => (hrul h).frame (by decide) fr1 fr2⟩, hRd.up, hB, hH⟩
  · refine ign (show ¬ (xi 1 = 0) by rw [en]; decide) ?_
    refine ign (show ¬ (xi 1 = 1) by rw [en]; decide) ?_
    refine ign (show ¬ (xi 1 = 2) by rw [en]; decide) ?_
    refine ign (show ¬ (xi 1 = 3) by rw [en]; decide) ?_
    refine bd (by rw [en]; exact q1) ?_
    obtain ⟨rfl, rfl, rfl, rfl, rfl, rfl⟩ := hno (by decide)
    rcases hcase with ⟨rfl, hx, hm⟩ | ⟨rfl, hlt, hx, hm, hlaw⟩
    · refine ign (show ¬ (false = true) by decide) ?_
      unfold xL_c8r
      refine bd (by rw [mn]; exact q2) ?_
      refine igp rfl ?_
      exact hn _ _ _ _ _ _ _ _ ⟨P, R, 4, nb, hG, hF, hS, hC, hT1, ⟨⟨hn4, hx, hm, hfo⟩, w0, w1, w2, w3⟩, hRl, hRd.up, hB, hH⟩
    · exact absurd hlt (by decide)
theorem k_c9 : Case xL_c9 := by
  intro next L xs i c xi xb xa xl mi mb ma ml h hn h1 h2 h3 h4 h5 hc
  obtain ⟨P, R, n, nb, hG, hF, hS, hC, hT, hW, hRl, hRd, hB, hH⟩ := h
  have hG' := hG
  obtain ⟨⟨e11, m0, e12, m1⟩, hL, hro, hpu, a0, a1, a2, a3, a4, a5, a6⟩ := hG'
  have hRl0 := hRl
  obtain ⟨hb, hrul⟩ := hRl0
  have hW0 := hW
  obtain ⟨⟨hn4, en, mn, hfo⟩, w0, w1, w2, w3⟩ := hW0
  obtain ⟨r, tl1, hx, rl1, ra1, rf1, sz1, uw1, st1, g1, g2, fed1, at1, cod1, wai1, opn1, brk1, hm, asked1, fW1, lF1, lM1, lT1, ls1, mW1, op1, opW1, tW1, val1, valW1, wts1, q1, q2, hT1, hg, hcase⟩ := m_rule hT (xb 0) (xi 17) (xi 18) (xi 19) (xi 21) (xb 2) (xa 25) (mi 13) (mi 14) (mi 15) (mi 16) (mi 17) (mb 1) (ma 24) (ma 16) (ma 17) (ma 18) (ma 15) (ma 25) (ma 13) (ma 22) (ma 26) (ma 14) (ma 23) (ma 19)
  unfold xL_c9
  refine bd q1 ?_
  subst hg
  rcases hcase with ⟨rfl, rfl, rfl, rfl, rfl, rfl, rfl, rfl, rfl⟩ | ⟨rfl, rfl, rfl, hlaw, fr1, fr2⟩
  · refine ign (show ¬ (false = true) by decide) ?_
    refine ign (show ¬ (false = true) by decide) ?_
    unfold xL_c9r
    refine bd (by rw [← hb]; exact q2) ?_
    refine igp rfl ?_
    exact hn _ _ _ _ _ _ _ _ ⟨P, R, n, nb, hG, hF, hS, hC, hT1, hW, ⟨rfl, hrul⟩, hRd.up, hB, hH⟩
  · refine igp (show true = true from rfl) ?_
    refine igp (show true = true from rfl) ?_
    unfold xL_c9r
    refine bd (by rw [← hb]; exact q2) ?_
    refine igp rfl ?_
    exact hn _ _ _ _ _ _ _ _ ⟨P, R, n, nb, hG, hF, hS, hC, hT1, ⟨⟨hn4, en, mn, hfo⟩, fun h => (w0 h).frame (by decide) fr1 fr2, fun h => (w1 h).frame (by decide) fr1 fr2, fun h => (w2 h).frame (by decide) fr1 fr2, fun h => (w3 h).frame (by decide) fr1 fr2⟩, ⟨rfl, fun _ => hlaw⟩, hRd.up, hB, hH⟩

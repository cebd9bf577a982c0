/-! the law's cases over the shelves (laid by mkinv.py) -/
theorem k_c2 : Case xL_c2 := by
  intro next L xs i c xi xb xa xl mi mb ma ml h hn h1 h2 h3 h4 h5 hc
  obtain ⟨P, R, n, nb, hG, hF, hS, hC, hT, hW, hRl, hRd, hB, hH⟩ := h
  have hG' := hG
  obtain ⟨⟨e11, m0, e12, m1⟩, hL, hro, hpu, a0, a1, a2, a3, a4, a5, a6⟩ := hG'
  have hB0 := hB
  obtain ⟨b1, b2, b3, b4, b5, b6, b7, b8⟩ := hB0
  have hH0 := hH
  obtain ⟨g0, g1, g2, g3, g4, g5⟩ := hH0
  unfold xL_c2
  refine bg h1 ?_
  refine bg h2 ?_
  refine bg h3 ?_
  by_cases x1_0 : xs (i + 1).toNatClampNeg = 0
  · refine igp x1_0 ?_
    have y1 : xs (i + 1).toNatClampNeg = I 0 := x1_0
    obtain ⟨r, R1, da, fl, fr, le, t, q1, q2, hr1, hr16, hq⟩ := m_roads (by decide) hL.1 hL.2.1 b1 hL.2.2 g0 (xs (i + 2).toNatClampNeg) (xs (i + 3).toNatClampNeg)
    refine bd (by rw [e11, e12, y1]; exact q1) ?_
    refine bg h1 ?_
    refine bg h2 ?_
    refine bg h3 ?_
    refine bd (by rw [m0, m1, a4, a5, a3, a2, a6, y1]; exact q2) ?_
    refine igp rfl ?_
    exact hn _ _ _ _ _ _ _ _ ⟨P, R1, n, nb, ⟨⟨e11, m0, rfl, rfl⟩, ⟨hL.1, hr16, hq⟩, hro, hpu, a0, a1, rfl, rfl, rfl, rfl, rfl⟩, hF, hS, hC.mono (Nat.le_refl _) hr1, hT, hW, hRl, hRd.up, hB, hH⟩
  refine ign x1_0 ?_
  by_cases x1_1 : xs (i + 1).toNatClampNeg = 1
  · refine igp x1_1 ?_
    have y1 : xs (i + 1).toNatClampNeg = I 1 := x1_1
    obtain ⟨r, R1, da, fl, fr, le, t, q1, q2, hr1, hr16, hq⟩ := m_roads (by decide) hL.1 hL.2.1 b1 hL.2.2 g1 (xs (i + 2).toNatClampNeg) (xs (i + 3).toNatClampNeg)
    refine bd (by rw [e11, e12, y1]; exact q1) ?_
    refine bg h1 ?_
    refine bg h2 ?_
    refine bg h3 ?_
    refine bd (by rw [m0, m1, a4, a5, a3, a2, a6, y1]; exact q2) ?_
    refine igp rfl ?_
    exact hn _ _ _ _ _ _ _ _ ⟨P, R1, n, nb, ⟨⟨e11, m0, rfl, rfl⟩, ⟨hL.1, hr16, hq⟩, hro, hpu, a0, a1, rfl, rfl, rfl, rfl, rfl⟩, hF, hS, hC.mono (Nat.le_refl _) hr1, hT, hW, hRl, hRd.up, hB, hH⟩
  refine ign x1_1 ?_
  by_cases x1_2 : xs (i + 1).toNatClampNeg = 2
  · refine igp x1_2 ?_
    have y1 : xs (i + 1).toNatClampNeg = I 2 := x1_2
    obtain ⟨r, R1, da, fl, fr, le, t, q1, q2, hr1, hr16, hq⟩ := m_roads (by decide) hL.1 hL.2.1 b1 hL.2.2 g2 (xs (i + 2).toNatClampNeg) (xs (i + 3).toNatClampNeg)
    refine bd (by rw [e11, e12, y1]; exact q1) ?_
    refine bg h1 ?_
    refine bg h2 ?_
    refine bg h3 ?_
    refine bd (by rw [m0, m1, a4, a5, a3, a2, a6, y1]; exact q2) ?_
    refine igp rfl ?_
    exact hn _ _ _ _ _ _ _ _ ⟨P, R1, n, nb, ⟨⟨e11, m0, rfl, rfl⟩, ⟨hL.1, hr16, hq⟩, hro, hpu, a0, a1, rfl, rfl, rfl, rfl, rfl⟩, hF, hS, hC.mono (Nat.le_refl _) hr1, hT, hW, hRl, hRd.up, hB, hH⟩
  refine ign x1_2 ?_
  by_cases x1_3 : xs (i + 1).toNatClampNeg = 3
  · refine igp x1_3 ?_
    have y1 : xs (i + 1).toNatClampNeg = I 3 := x1_3
    obtain ⟨r, R1, da, fl, fr, le, t, q1, q2, hr1, hr16, hq⟩ := m_roads (by decide) hL.1 hL.2.1 b1 hL.2.2 g3 (xs (i + 2).toNatClampNeg) (xs (i + 3).toNatClampNeg)
    refine bd (by rw [e11, e12, y1]; exact q1) ?_
    refine bg h1 ?_
    refine bg h2 ?_
    refine bg h3 ?_
    refine bd (by rw [m0, m1, a4, a5, a3, a2, a6, y1]; exact q2) ?_
    refine igp rfl ?_
    exact hn _ _ _ _ _ _ _ _ ⟨P, R1, n, nb, ⟨⟨e11, m0, rfl, rfl⟩, ⟨hL.1, hr16, hq⟩, hro, hpu, a0, a1, rfl, rfl, rfl, rfl, rfl⟩, hF, hS, hC.mono (Nat.le_refl _) hr1, hT, hW, hRl, hRd.up, hB, hH⟩
  refine ign x1_3 ?_
  by_cases x1_4 : xs (i + 1).toNatClampNeg = 4
  · refine igp x1_4 ?_
    have y1 : xs (i + 1).toNatClampNeg = I 4 := x1_4
    obtain ⟨r, R1, da, fl, fr, le, t, q1, q2, hr1, hr16, hq⟩ := m_roads (by decide) hL.1 hL.2.1 b1 hL.2.2 g4 (xs (i + 2).toNatClampNeg) (xs (i + 3).toNatClampNeg)
    refine bd (by rw [e11, e12, y1]; exact q1) ?_
    refine bg h1 ?_
    refine bg h2 ?_
    refine bg h3 ?_
    refine bd (by rw [m0, m1, a4, a5, a3, a2, a6, y1]; exact q2) ?_
    refine igp rfl ?_
    exact hn _ _ _ _ _ _ _ _ ⟨P, R1, n, nb, ⟨⟨e11, m0, rfl, rfl⟩, ⟨hL.1, hr16, hq⟩, hro, hpu, a0, a1, rfl, rfl, rfl, rfl, rfl⟩, hF, hS, hC.mono (Nat.le_refl _) hr1, hT, hW, hRl, hRd.up, hB, hH⟩
  refine ign x1_4 ?_
  by_cases x1_5 : xs (i + 1).toNatClampNeg = 5
  · refine igp x1_5 ?_
    have y1 : xs (i + 1).toNatClampNeg = I 5 := x1_5
    obtain ⟨r, R1, da, fl, fr, le, t, q1, q2, hr1, hr16, hq⟩ := m_roads (by decide) hL.1 hL.2.1 b1 hL.2.2 g5 (xs (i + 2).toNatClampNeg) (xs (i + 3).toNatClampNeg)
    refine bd (by rw [e11, e12, y1]; exact q1) ?_
    refine bg h1 ?_
    refine bg h2 ?_
    refine bg h3 ?_
    refine bd (by rw [m0, m1, a4, a5, a3, a2, a6, y1]; exact q2) ?_
    refine igp rfl ?_
    exact hn _ _ _ _ _ _ _ _ ⟨P, R1, n, nb, ⟨⟨e11, m0, rfl, rfl⟩, ⟨hL.1, hr16, hq⟩, hro, hpu, a0, a1, rfl, rfl, rfl, rfl, rfl⟩, hF, hS, hC.mono (Nat.le_refl _) hr1, hT, hW, hRl, hRd.up, hB, hH⟩
  refine ign x1_5 ?_
  obtain ⟨f1, f2⟩ := shO x1_0 x1_1 x1_2 x1_3 x1_4 x1_5
  have q1 := (o8 f2 (xs (i + 2).toNatClampNeg) (xs (i + 3).toNatClampNeg) 0).2.2.2.2.2.1
  have q2 : x9_roads (mi 0) (mi 1) (ml 0) (ma 4) (ma 33) (ma 5) (ma 3) (ma 2) (ma 34) (ma 6) (xs (i + 1).toNatClampNeg) (xs (i + 2).toNatClampNeg) (xs (i + 3).toNatClampNeg) = some (-1, mi 1, ma 4, ma 5, ma 3, ma 2, ma 6) := by unfold x9_roads; rw [f1]; rfl
  refine bd q1 ?_
  refine bg h1 ?_
  refine bg h2 ?_
  refine bg h3 ?_
  refine bd q2 ?_
  refine igp rfl ?_
  exact hn _ _ _ _ _ _ _ _ ⟨P, R, n, nb, hG, hF, hS, hC, hT, hW, hRl, hRd.up, hB, hH⟩
theorem k_c31 : Case xL_c31 := by
  intro next L xs i c xi xb xa xl mi mb ma ml h hn h1 h2 h3 h4 h5 hc
  obtain ⟨P, R, n, nb, hG, hF, hS, hC, hT, hW, hRl, hRd, hB, hH⟩ := h
  have hG' := hG
  obtain ⟨⟨e11, m0, e12, m1⟩, hL, hro, hpu, a0, a1, a2, a3, a4, a5, a6⟩ := hG'
  have hB0 := hB
  obtain ⟨b1, b2, b3, b4, b5, b6, b7, b8⟩ := hB0
  have hH0 := hH
  obtain ⟨g0, g1, g2, g3, g4, g5⟩ := hH0
  unfold xL_c31
  refine bg h1 ?_
  refine bg h2 ?_
  by_cases x1_0 : xs (i + 1).toNatClampNeg = 0
  · refine igp x1_0 ?_
    have y1 : xs (i + 1).toNatClampNeg = I 0 := x1_0
    obtain ⟨r, sort1, body1, held1, q1, q2, hsh, hfr⟩ := m_keep (by decide) b1 g0 (xs (i + 2).toNatClampNeg)
    refine bd (by rw [b2, y1]; exact q1) ?_
    refine bg h1 ?_
    refine bg h2 ?_
    refine bd (by rw [b3, y1]; exact q2) ?_
    refine igp rfl ?_
    exact hn _ _ _ _ _ _ _ _ ⟨P, R, n, nb, hG, hF, hS, hC, hT, hW, hRl, hRd.up, hB, ⟨hsh, g1.frame (hfr 1 (by decide)) rfl (fun _ _ => rfl) (Nat.le_refl _), g2.frame (hfr 2 (by decide)) rfl (fun _ _ => rfl) (Nat.le_refl _), g3.frame (hfr 3 (by decide)) rfl (fun _ _ => rfl) (Nat.le_refl _), g4.frame (hfr 4 (by decide)) rfl (fun _ _ => rfl) (Nat.le_refl _), g5.frame (hfr 5 (by decide)) rfl (fun _ _ => rfl) (Nat.le_refl _)⟩⟩
  refine ign x1_0 ?_
  by_cases x1_1 : xs (i + 1).toNatClampNeg = 1
  · refine igp x1_1 ?_
    have y1 : xs (i + 1).toNatClampNeg = I 1 := x1_1
    obtain ⟨r, sort1, body1, held1, q1, q2, hsh, hfr⟩ := m_keep (by decide) b1 g1 (xs (i + 2).toNatClampNeg)
    refine bd (by rw [b2, y1]; exact q1) ?_
    refine bg h1 ?_
    refine bg h2 ?_
    refine bd (by rw [b3, y1]; exact q2) ?_
    refine igp rfl ?_
    exact hn _ _ _ _ _ _ _ _ ⟨P, R, n, nb, hG, hF, hS, hC, hT, hW, hRl, hRd.up, hB, ⟨g0.frame (hfr 0 (by decide)) rfl (fun _ _ => rfl) (Nat.le_refl _), hsh, g2.frame (hfr 2 (by decide)) rfl (fun _ _ => rfl) (Nat.le_refl _), g3.frame (hfr 3 (by decide)) rfl (fun _ _ => rfl) (Nat.le_refl _), g4.frame (hfr 4 (by decide)) rfl (fun _ _ => rfl) (Nat.le_refl _), g5.frame (hfr 5 (by decide)) rfl (fun _ _ => rfl) (Nat.le_refl _)⟩⟩
  refine ign x1_1 ?_
  by_cases x1_2 : xs (i + 1).toNatClampNeg = 2
  · refine igp x1_2 ?_
    have y1 : xs (i + 1).toNatClampNeg = I 2 := x1_2
    obtain ⟨r, sort1, body1, held1, q1, q2, hsh, hfr⟩ := m_keep (by decide) b1 g2 (xs (i + 2).toNatClampNeg)
    refine bd (by rw [b2, y1]; exact q1) ?_
    refine bg h1 ?_
    refine bg h2 ?_
    refine bd (by rw [b3, y1]; exact q2) ?_
    refine igp rfl ?_
    exact hn _ _ _ _ _ _ _ _ ⟨P, R, n, nb, hG, hF, hS, hC, hT, hW, hRl, hRd.up, hB, ⟨g0.frame (hfr 0 (by decide)) rfl (fun _ _ => rfl) (Nat.le_refl _), g1.frame (hfr 1 (by decide)) rfl (fun _ _ => rfl) (Nat.le_refl _), hsh, g3.frame (hfr 3 (by decide)) rfl (fun _ _ => rfl) (Nat.le_refl _), g4.frame (hfr 4 (by decide)) rfl (fun _ _ => rfl) (Nat.le_refl _), g5.frame (hfr 5 (by decide)) rfl (fun _ _ => rfl) (Nat.le_refl _)⟩⟩
  refine ign x1_2 ?_
  by_cases x1_3 : xs (i + 1).toNatClampNeg = 3
  · refine igp x1_3 ?_
    have y1 : xs (i + 1).toNatClampNeg = I 3 := x1_3
    obtain ⟨r, sort1, body1, held1, q1, q2, hsh, hfr⟩ := m_keep (by decide) b1 g3 (xs (i + 2).toNatClampNeg)
    refine bd (by rw [b2, y1]; exact q1) ?_
    refine bg h1 ?_
    refine bg h2 ?_
    refine bd (by rw [b3, y1]; exact q2) ?_
    refine igp rfl ?_
    exact hn _ _ _ _ _ _ _ _ ⟨P, R, n, nb, hG, hF, hS, hC, hT, hW, hRl, hRd.up, hB, ⟨g0.frame (hfr 0 (by decide)) rfl (fun _ _ => rfl) (Nat.le_refl _), g1.frame (hfr 1 (by decide)) rfl (fun _ _ => rfl) (Nat.le_refl _), g2.frame (hfr 2 (by decide)) rfl (fun _ _ => rfl) (Nat.le_refl _), hsh, g4.frame (hfr 4 (by decide)) rfl (fun _ _ => rfl) (Nat.le_refl _), g5.frame (hfr 5 (by decide)) rfl (fun _ _ => rfl) (Nat.le_refl _)⟩⟩
  refine ign x1_3 ?_
  by_cases x1_4 : xs (i + 1).toNatClampNeg = 4
  · refine igp x1_4 ?_
    have y1 : xs (i + 1).toNatClampNeg = I 4 := x1_4
    obtain ⟨r, sort1, body1, held1, q1, q2, hsh, hfr⟩ := m_keep (by decide) b1 g4 (xs (i + 2).toNatClampNeg)
    refine bd (by rw [b2, y1]; exact q1) ?_
    refine bg h1 ?_
    refine bg h2 ?_
    refine bd (by rw [b3, y1]; exact q2) ?_
    refine igp rfl ?_
    exact hn _ _ _ _ _ _ _ _ ⟨P, R, n, nb, hG, hF, hS, hC, hT, hW, hRl, hRd.up, hB, ⟨g0.frame (hfr 0 (by decide)) rfl (fun _ _ => rfl) (Nat.le_refl _), g1.frame (hfr 1 (by decide)) rfl (fun _ _ => rfl) (Nat.le_refl _), g2.frame (hfr 2 (by decide)) rfl (fun _ _ => rfl) (Nat.le_refl _), g3.frame (hfr 3 (by decide)) rfl (fun _ _ => rfl) (Nat.le_refl _), hsh, g5.frame (hfr 5 (by decide)) rfl (fun _ _ => rfl) (Nat.le_refl _)⟩⟩
  refine ign x1_4 ?_
  by_cases x1_5 : xs (i + 1).toNatClampNeg = 5
  · refine igp x1_5 ?_
    have y1 : xs (i + 1).toNatClampNeg = I 5 := x1_5
    obtain ⟨r, sort1, body1, held1, q1, q2, hsh, hfr⟩ := m_keep (by decide) b1 g5 (xs (i + 2).toNatClampNeg)
    refine bd (by rw [b2, y1]; exact q1) ?_
    refine bg h1 ?_
    refine bg h2 ?_
    refine bd (by rw [b3, y1]; exact q2) ?_
    refine igp rfl ?_
    exact hn _ _ _ _ _ _ _ _ ⟨P, R, n, nb, hG, hF, hS, hC, hT, hW, hRl, hRd.up, hB, ⟨g0.frame (hfr 0 (by decide)) rfl (fun _ _ => rfl) (Nat.le_refl _), g1.frame (hfr 1 (by decide)) rfl (fun _ _ => rfl) (Nat.le_refl _), g2.frame (hfr 2 (by decide)) rfl (fun _ _ => rfl) (Nat.le_refl _), g3.frame (hfr 3 (by decide)) rfl (fun _ _ => rfl) (Nat.le_refl _), g4.frame (hfr 4 (by decide)) rfl (fun _ _ => rfl) (Nat.le_refl _), hsh⟩⟩
  refine ign x1_5 ?_
  obtain ⟨f1, f2⟩ := shO x1_0 x1_1 x1_2 x1_3 x1_4 x1_5
  have q1 := (o8 f2 (xs (i + 2).toNatClampNeg) 0 0).1
  have q2 : x9_keep (mi 24) (ma 33) (xs (i + 1).toNatClampNeg) (xs (i + 2).toNatClampNeg) = some (-1, ma 33) := by unfold x9_keep; rw [f1]; rfl
  refine bd q1 ?_
  refine bg h1 ?_
  refine bg h2 ?_
  refine bd q2 ?_
  refine igp rfl ?_
  exact hn _ _ _ _ _ _ _ _ ⟨P, R, n, nb, hG, hF, hS, hC, hT, hW, hRl, hRd.up, hB, hH⟩
theorem k_c32 : Case xL_c32 := by
  intro next L xs i c xi xb xa xl mi mb ma ml h hn h1 h2 h3 h4 h5 hc
  obtain ⟨P, R, n, nb, hG, hF, hS, hC, hT, hW, hRl, hRd, hB, hH⟩ := h
  have hG' := hG
  obtain ⟨⟨e11, m0, e12, m1⟩, hL, hro, hpu, a0, a1, a2, a3, a4, a5, a6⟩ := hG'
  have hB0 := hB
  obtain ⟨b1, b2, b3, b4, b5, b6, b7, b8⟩ := hB0
  have hH0 := hH
  obtain ⟨g0, g1, g2, g3, g4, g5⟩ := hH0
  unfold xL_c32
  refine bg h1 ?_
  refine bg h2 ?_
  refine bg h3 ?_
  by_cases x1_0 : xs (i + 1).toNatClampNeg = 0
  · refine igp x1_0 ?_
    have y1 : xs (i + 1).toNatClampNeg = I 0 := x1_0
    obtain ⟨r, sort1, body1, size1, cells1, held1, len1, el1, q1, q2, hsh, hfr⟩ := m_row (by decide) g0 (xs (i + 2).toNatClampNeg) (xs (i + 3).toNatClampNeg)
    refine bd (by rw [y1]; exact q1) ?_
    refine bg h1 ?_
    refine bg h2 ?_
    refine bg h3 ?_
    refine bd (by rw [y1]; exact q2) ?_
    refine igp rfl ?_
    exact hn _ _ _ _ _ _ _ _ ⟨P, R, n, nb, hG, hF, hS, hC, hT, hW, hRl, hRd.up, hB, ⟨hsh, g1.frame (hfr 1 (by decide)).1 (hfr 1 (by decide)).2.1 (hfr 1 (by decide)).2.2 (Nat.le_refl _), g2.frame (hfr 2 (by decide)).1 (hfr 2 (by decide)).2.1 (hfr 2 (by decide)).2.2 (Nat.le_refl _), g3.frame (hfr 3 (by decide)).1 (hfr 3 (by decide)).2.1 (hfr 3 (by decide)).2.2 (Nat.le_refl _), g4.frame (hfr 4 (by decide)).1 (hfr 4 (by decide)).2.1 (hfr 4 (by decide)).2.2 (Nat.le_refl _), g5.frame (hfr 5 (by decide)).1 (hfr 5 (by decide)).2.1 (hfr 5 (by decide)).2.2 (Nat.le_refl _)⟩⟩
  refine ign x1_0 ?_
  by_cases x1_1 : xs (i + 1).toNatClampNeg = 1
  · refine igp x1_1 ?_
    have y1 : xs (i + 1).toNatClampNeg = I 1 := x1_1
    obtain ⟨r, sort1, body1, size1, cells1, held1, len1, el1, q1, q2, hsh, hfr⟩ := m_row (by decide) g1 (xs (i + 2).toNatClampNeg) (xs (i + 3).toNatClampNeg)
    refine bd (by rw [y1]; exact q1) ?_
    refine bg h1 ?_
    refine bg h2 ?_
    refine bg h3 ?_
    refine bd (by rw [y1]; exact q2) ?_
    refine igp rfl ?_
    exact hn _ _ _ _ _ _ _ _ ⟨P, R, n, nb, hG, hF, hS, hC, hT, hW, hRl, hRd.up, hB, ⟨g0.frame (hfr 0 (by decide)).1 (hfr 0 (by decide)).2.1 (hfr 0 (by decide)).2.2 (Nat.le_refl _), hsh, g2.frame (hfr 2 (by decide)).1 (hfr 2 (by decide)).2.1 (hfr 2 (by decide)).2.2 (Nat.le_refl _), g3.frame (hfr 3 (by decide)).1 (hfr 3 (by decide)).2.1 (hfr 3 (by decide)).2.2 (Nat.le_refl _), g4.frame (hfr 4 (by decide)).1 (hfr 4 (by decide)).2.1 (hfr 4 (by decide)).2.2 (Nat.le_refl _), g5.frame (hfr 5 (by decide)).1 (hfr 5 (by decide)).2.1 (hfr 5 (by decide)).2.2 (Nat.le_refl _)⟩⟩
  refine ign x1_1 ?_
  by_cases x1_2 : xs (i + 1).toNatClampNeg = 2
  · refine igp x1_2 ?_
    have y1 : xs (i + 1).toNatClampNeg = I 2 := x1_2
    obtain ⟨r, sort1, body1, size1, cells1, held1, len1, el1, q1, q2, hsh, hfr⟩ := m_row (by decide) g2 (xs (i + 2).toNatClampNeg) (xs (i + 3).toNatClampNeg)
    refine bd (by rw [y1]; exact q1) ?_
    refine bg h1 ?_
    refine bg h2 ?_
    refine bg h3 ?_
    refine bd (by rw [y1]; exact q2) ?_
    refine igp rfl ?_
    exact hn _ _ _ _ _ _ _ _ ⟨P, R, n, nb, hG, hF, hS, hC, hT, hW, hRl, hRd.up, hB, ⟨g0.frame (hfr 0 (by decide)).1 (hfr 0 (by decide)).2.1 (hfr 0 (by decide)).2.2 (Nat.le_refl _), g1.frame (hfr 1 (by decide)).1 (hfr 1 (by decide)).2.1 (hfr 1 (by decide)).2.2 (Nat.le_refl _), hsh, g3.frame (hfr 3 (by decide)).1 (hfr 3 (by decide)).2.1 (hfr 3 (by decide)).2.2 (Nat.le_refl _), g4.frame (hfr 4 (by decide)).1 (hfr 4 (by decide)).2.1 (hfr 4 (by decide)).2.2 (Nat.le_refl _), g5.frame (hfr 5 (by decide)).1 (hfr 5 (by decide)).2.1 (hfr 5 (by decide)).2.2 (Nat.le_refl _)⟩⟩
  refine ign x1_2 ?_
  by_cases x1_3 : xs (i + 1).toNatClampNeg = 3
  · refine igp x1_3 ?_
    have y1 : xs (i + 1).toNatClampNeg = I 3 := x1_3
    obtain ⟨r, sort1, body1, size1, cells1, held1, len1, el1, q1, q2, hsh, hfr⟩ := m_row (by decide) g3 (xs (i + 2).toNatClampNeg) (xs (i + 3).toNatClampNeg)
    refine bd (by rw [y1]; exact q1) ?_
    refine bg h1 ?_
    refine bg h2 ?_
    refine bg h3 ?_
    refine bd (by rw [y1]; exact q2) ?_
    refine igp rfl ?_
    exact hn _ _ _ _ _ _ _ _ ⟨P, R, n, nb, hG, hF, hS, hC, hT, hW, hRl, hRd.up, hB, ⟨g0.frame (hfr 0 (by decide)).1 (hfr 0 (by decide)).2.1 (hfr 0 (by decide)).2.2 (Nat.le_refl _), g1.frame (hfr 1 (by decide)).1 (hfr 1 (by decide)).2.1 (hfr 1 (by decide)).2.2 (Nat.le_refl _), g2.frame (hfr 2 (by decide)).1 (hfr 2 (by decide)).2.1 (hfr 2 (by decide)).2.2 (Nat.le_refl _), hsh, g4.frame (hfr 4 (by decide)).1 (hfr 4 (by decide)).2.1 (hfr 4 (by decide)).2.2 (Nat.le_refl _), g5.frame (hfr 5 (by decide)).1 (hfr 5 (by decide)).2.1 (hfr 5 (by decide)).2.2 (Nat.le_refl _)⟩⟩
  refine ign x1_3 ?_
  by_cases x1_4 : xs (i + 1).toNatClampNeg = 4
  · refine igp x1_4 ?_
    have y1 : xs (i + 1).toNatClampNeg = I 4 := x1_4
    obtain ⟨r, sort1, body1, size1, cells1, held1, len1, el1, q1, q2, hsh, hfr⟩ := m_row (by decide) g4 (xs (i + 2).toNatClampNeg) (xs (i + 3).toNatClampNeg)
    refine bd (by rw [y1]; exact q1) ?_
    refine bg h1 ?_
    refine bg h2 ?_
    refine bg h3 ?_
    refine bd (by rw [y1]; exact q2) ?_
    refine igp rfl ?_
    exact hn _ _ _ _ _ _ _ _ ⟨P, R, n, nb, hG, hF, hS, hC, hT, hW, hRl, hRd.up, hB, ⟨g0.frame (hfr 0 (by decide)).1 (hfr 0 (by decide)).2.1 (hfr 0 (by decide)).2.2 (Nat.le_refl _), g1.frame (hfr 1 (by decide)).1 (hfr 1 (by decide)).2.1 (hfr 1 (by decide)).2.2 (Nat.le_refl _), g2.frame (hfr 2 (by decide)).1 (hfr 2 (by decide)).2.1 (hfr 2 (by decide)).2.2 (Nat.le_refl _), g3.frame (hfr 3 (by decide)).1 (hfr 3 (by decide)).2.1 (hfr 3 (by decide)).2.2 (Nat.le_refl _), hsh, g5.frame (hfr 5 (by decide)).1 (hfr 5 (by decide)).2.1 (hfr 5 (by decide)).2.2 (Nat.le_refl _)⟩⟩
  refine ign x1_4 ?_
  by_cases x1_5 : xs (i + 1).toNatClampNeg = 5
  · refine igp x1_5 ?_
    have y1 : xs (i + 1).toNatClampNeg = I 5 := x1_5
    obtain ⟨r, sort1, body1, size1, cells1, held1, len1, el1, q1, q2, hsh, hfr⟩ := m_row (by decide) g5 (xs (i + 2).toNatClampNeg) (xs (i + 3).toNatClampNeg)
    refine bd (by rw [y1]; exact q1) ?_
    refine bg h1 ?_
    refine bg h2 ?_
    refine bg h3 ?_
    refine bd (by rw [y1]; exact q2) ?_
    refine igp rfl ?_
    exact hn _ _ _ _ _ _ _ _ ⟨P, R, n, nb, hG, hF, hS, hC, hT, hW, hRl, hRd.up, hB, ⟨g0.frame (hfr 0 (by decide)).1 (hfr 0 (by decide)).2.1 (hfr 0 (by decide)).2.2 (Nat.le_refl _), g1.frame (hfr 1 (by decide)).1 (hfr 1 (by decide)).2.1 (hfr 1 (by decide)).2.2 (Nat.le_refl _), g2.frame (hfr 2 (by decide)).1 (hfr 2 (by decide)).2.1 (hfr 2 (by decide)).2.2 (Nat.le_refl _), g3.frame (hfr 3 (by decide)).1 (hfr 3 (by decide)).2.1 (hfr 3 (by decide)).2.2 (Nat.le_refl _), g4.frame (hfr 4 (by decide)).1 (hfr 4 (by decide)).2.1 (hfr 4 (by decide)).2.2 (Nat.le_refl _), hsh⟩⟩
  refine ign x1_5 ?_
  obtain ⟨f1, f2⟩ := shO x1_0 x1_1 x1_2 x1_3 x1_4 x1_5
  have q1 := (o8 f2 (xs (i + 2).toNatClampNeg) (xs (i + 3).toNatClampNeg) 0).2.1
  have q2 : x9_row (ml 0) (ma 33) (ma 34) (xs (i + 1).toNatClampNeg) (xs (i + 2).toNatClampNeg) (xs (i + 3).toNatClampNeg) = some (-1, ml 0, ma 33, ma 34) := by unfold x9_row; rw [f1]; rfl
  refine bd q1 ?_
  refine bg h1 ?_
  refine bg h2 ?_
  refine bg h3 ?_
  refine bd q2 ?_
  refine igp rfl ?_
  exact hn _ _ _ _ _ _ _ _ ⟨P, R, n, nb, hG, hF, hS, hC, hT, hW, hRl, hRd.up, hB, hH⟩
theorem k_c33 : Case xL_c33 := by
  intro next L xs i c xi xb xa xl mi mb ma ml h hn h1 h2 h3 h4 h5 hc
  obtain ⟨P, R, n, nb, hG, hF, hS, hC, hT, hW, hRl, hRd, hB, hH⟩ := h
  have hG' := hG
  obtain ⟨⟨e11, m0, e12, m1⟩, hL, hro, hpu, a0, a1, a2, a3, a4, a5, a6⟩ := hG'
  have hB0 := hB
  obtain ⟨b1, b2, b3, b4, b5, b6, b7, b8⟩ := hB0
  have hH0 := hH
  obtain ⟨g0, g1, g2, g3, g4, g5⟩ := hH0
  unfold xL_c33
  refine bg h1 ?_
  refine bg h2 ?_
  refine bg h3 ?_
  refine bg h4 ?_
  by_cases x1_0 : xs (i + 1).toNatClampNeg = 0
  · refine igp x1_0 ?_
    have y1 : xs (i + 1).toNatClampNeg = I 0 := x1_0
    obtain ⟨r, cells1, el1, q1, q2, hsh, hfr⟩ := m_put (by decide) b1 g0 (xs (i + 2).toNatClampNeg) ((((xs (i + 3).toNatClampNeg).toInt64) <<< ((32 : Int32).toInt64 &&& 63)) ||| (((xs (i + 4).toNatClampNeg).toInt64) &&& 4294967295))
    refine bd (by rw [y1]; exact q1) ?_
    refine bg h1 ?_
    refine bg h2 ?_
    refine bg h3 ?_
    refine bg h4 ?_
    refine bd (by rw [y1]; exact q2) ?_
    refine igp rfl ?_
    exact hn _ _ _ _ _ _ _ _ ⟨P, R, n, nb, hG, hF, hS, hC, hT, hW, hRl, hRd.up, hB, ⟨hsh, g1.frame rfl rfl (hfr 1 (by decide)) (Nat.le_refl _), g2.frame rfl rfl (hfr 2 (by decide)) (Nat.le_refl _), g3.frame rfl rfl (hfr 3 (by decide)) (Nat.le_refl _), g4.frame rfl rfl (hfr 4 (by decide)) (Nat.le_refl _), g5.frame rfl rfl (hfr 5 (by decide)) (Nat.le_refl _)⟩⟩
  refine ign x1_0 ?_
  by_cases x1_1 : xs (i + 1).toNatClampNeg = 1
  · refine igp x1_1 ?_
    have y1 : xs (i + 1).toNatClampNeg = I 1 := x1_1
    obtain ⟨r, cells1, el1, q1, q2, hsh, hfr⟩ := m_put (by decide) b1 g1 (xs (i + 2).toNatClampNeg) ((((xs (i + 3).toNatClampNeg).toInt64) <<< ((32 : Int32).toInt64 &&& 63)) ||| (((xs (i + 4).toNatClampNeg).toInt64) &&& 4294967295))
    refine bd (by rw [y1]; exact q1) ?_
    refine bg h1 ?_
    refine bg h2 ?_
    refine bg h3 ?_
    refine bg h4 ?_
    refine bd (by rw [y1]; exact q2) ?_
    refine igp rfl ?_
    exact hn _ _ _ _ _ _ _ _ ⟨P, R, n, nb, hG, hF, hS, hC, hT, hW, hRl, hRd.up, hB, ⟨g0.frame rfl rfl (hfr 0 (by decide)) (Nat.le_refl _), hsh, g2.frame rfl rfl (hfr 2 (by decide)) (Nat.le_refl _), g3.frame rfl rfl (hfr 3 (by decide)) (Nat.le_refl _), g4.frame rfl rfl (hfr 4 (by decide)) (Nat.le_refl _), g5.frame rfl rfl (hfr 5 (by decide)) (Nat.le_refl _)⟩⟩
  refine ign x1_1 ?_
  by_cases x1_2 : xs (i + 1).toNatClampNeg = 2
  · refine igp x1_2 ?_
    have y1 : xs (i + 1).toNatClampNeg = I 2 := x1_2
    obtain ⟨r, cells1, el1, q1, q2, hsh, hfr⟩ := m_put (by decide) b1 g2 (xs (i + 2).toNatClampNeg) ((((xs (i + 3).toNatClampNeg).toInt64) <<< ((32 : Int32).toInt64 &&& 63)) ||| (((xs (i + 4).toNatClampNeg).toInt64) &&& 4294967295))
    refine bd (by rw [y1]; exact q1) ?_
    refine bg h1 ?_
    refine bg h2 ?_
    refine bg h3 ?_
    refine bg h4 ?_
    refine bd (by rw [y1]; exact q2) ?_
    refine igp rfl ?_
    exact hn _ _ _ _ _ _ _ _ ⟨P, R, n, nb, hG, hF, hS, hC, hT, hW, hRl, hRd.up, hB, ⟨g0.frame rfl rfl (hfr 0 (by decide)) (Nat.le_refl _), g1.frame rfl rfl (hfr 1 (by decide)) (Nat.le_refl _), hsh, g3.frame rfl rfl (hfr 3 (by decide)) (Nat.le_refl _), g4.frame rfl rfl (hfr 4 (by decide)) (Nat.le_refl _), g5.frame rfl rfl (hfr 5 (by decide)) (Nat.le_refl _)⟩⟩
  refine ign x1_2 ?_
  by_cases x1_3 : xs (i + 1).toNatClampNeg = 3
  · refine igp x1_3 ?_
    have y1 : xs (i + 1).toNatClampNeg = I 3 := x1_3
    obtain ⟨r, cells1, el1, q1, q2, hsh, hfr⟩ := m_put (by decide) b1 g3 (xs (i + 2).toNatClampNeg) ((((xs (i + 3).toNatClampNeg).toInt64) <<< ((32 : Int32).toInt64 &&& 63)) ||| (((xs (i + 4).toNatClampNeg).toInt64) &&& 4294967295))
    refine bd (by rw [y1]; exact q1) ?_
    refine bg h1 ?_
    refine bg h2 ?_
    refine bg h3 ?_
    refine bg h4 ?_
    refine bd (by rw [y1]; exact q2) ?_
    refine igp rfl ?_
    exact hn _ _ _ _ _ _ _ _ ⟨P, R, n, nb, hG, hF, hS, hC, hT, hW, hRl, hRd.up, hB, ⟨g0.frame rfl rfl (hfr 0 (by decide)) (Nat.le_refl _), g1.frame rfl rfl (hfr 1 (by decide)) (Nat.le_refl _), g2.frame rfl rfl (hfr 2 (by decide)) (Nat.le_refl _), hsh, g4.frame rfl rfl (hfr 4 (by decide)) (Nat.le_refl _), g5.frame rfl rfl (hfr 5 (by decide)) (Nat.le_refl _)⟩⟩
  refine ign x1_3 ?_
  by_cases x1_4 : xs (i + 1).toNatClampNeg = 4
  · refine igp x1_4 ?_
    have y1 : xs (i + 1).toNatClampNeg = I 4 := x1_4
    obtain ⟨r, cells1, el1, q1, q2, hsh, hfr⟩ := m_put (by decide) b1 g4 (xs (i + 2).toNatClampNeg) ((((xs (i + 3).toNatClampNeg).toInt64) <<< ((32 : Int32).toInt64 &&& 63)) ||| (((xs (i + 4).toNatClampNeg).toInt64) &&& 4294967295))
    refine bd (by rw [y1]; exact q1) ?_
    refine bg h1 ?_
    refine bg h2 ?_
    refine bg h3 ?_
    refine bg h4 ?_
    refine bd (by rw [y1]; exact q2) ?_
    refine igp rfl ?_
    exact hn _ _ _ _ _ _ _ _ ⟨P, R, n, nb, hG, hF, hS, hC, hT, hW, hRl, hRd.up, hB, ⟨g0.frame rfl rfl (hfr 0 (by decide)) (Nat.le_refl _), g1.frame rfl rfl (hfr 1 (by decide)) (Nat.le_refl _), g2.frame rfl rfl (hfr 2 (by decide)) (Nat.le_refl _), g3.frame rfl rfl (hfr 3 (by decide)) (Nat.le_refl _), hsh, g5.frame rfl rfl (hfr 5 (by decide)) (Nat.le_refl _)⟩⟩
  refine ign x1_4 ?_
  by_cases x1_5 : xs (i + 1).toNatClampNeg = 5
  · refine igp x1_5 ?_
    have y1 : xs (i + 1).toNatClampNeg = I 5 := x1_5
    obtain ⟨r, cells1, el1, q1, q2, hsh, hfr⟩ := m_put (by decide) b1 g5 (xs (i + 2).toNatClampNeg) ((((xs (i + 3).toNatClampNeg).toInt64) <<< ((32 : Int32).toInt64 &&& 63)) ||| (((xs (i + 4).toNatClampNeg).toInt64) &&& 4294967295))
    refine bd (by rw [y1]; exact q1) ?_
    refine bg h1 ?_
    refine bg h2 ?_
    refine bg h3 ?_
    refine bg h4 ?_
    refine bd (by rw [y1]; exact q2) ?_
    refine igp rfl ?_
    exact hn _ _ _ _ _ _ _ _ ⟨P, R, n, nb, hG, hF, hS, hC, hT, hW, hRl, hRd.up, hB, ⟨g0.frame rfl rfl (hfr 0 (by decide)) (Nat.le_refl _), g1.frame rfl rfl (hfr 1 (by decide)) (Nat.le_refl _), g2.frame rfl rfl (hfr 2 (by decide)) (Nat.le_refl _), g3.frame rfl rfl (hfr 3 (by decide)) (Nat.le_refl _), g4.frame rfl rfl (hfr 4 (by decide)) (Nat.le_refl _), hsh⟩⟩
  refine ign x1_5 ?_
  obtain ⟨f1, f2⟩ := shO x1_0 x1_1 x1_2 x1_3 x1_4 x1_5
  have q1 := (o8 f2 (xs (i + 2).toNatClampNeg) 0 ((((xs (i + 3).toNatClampNeg).toInt64) <<< ((32 : Int32).toInt64 &&& 63)) ||| (((xs (i + 4).toNatClampNeg).toInt64) &&& 4294967295))).2.2.1
  have q2 : x9_put (ml 0) (ma 33) (ma 34) (xs (i + 1).toNatClampNeg) (xs (i + 2).toNatClampNeg) ((((xs (i + 3).toNatClampNeg).toInt64) <<< ((32 : Int32).toInt64 &&& 63)) ||| (((xs (i + 4).toNatClampNeg).toInt64) &&& 4294967295)) = some (-1, ml 0) := by unfold x9_put; rw [f1]; rfl
  refine bd q1 ?_
  refine bg h1 ?_
  refine bg h2 ?_
  refine bg h3 ?_
  refine bg h4 ?_
  refine bd q2 ?_
  refine igp rfl ?_
  exact hn _ _ _ _ _ _ _ _ ⟨P, R, n, nb, hG, hF, hS, hC, hT, hW, hRl, hRd.up, hB, hH⟩
theorem k_c34 : Case xL_c34 := by
  intro next L xs i c xi xb xa xl mi mb ma ml h hn h1 h2 h3 h4 h5 hc
  obtain ⟨P, R, n, nb, hG, hF, hS, hC, hT, hW, hRl, hRd, hB, hH⟩ := h
  have hG' := hG
  obtain ⟨⟨e11, m0, e12, m1⟩, hL, hro, hpu, a0, a1, a2, a3, a4, a5, a6⟩ := hG'
  have hB0 := hB
  obtain ⟨b1, b2, b3, b4, b5, b6, b7, b8⟩ := hB0
  have hH0 := hH
  obtain ⟨g0, g1, g2, g3, g4, g5⟩ := hH0
  unfold xL_c34
  refine bg h1 ?_
  refine bg h2 ?_
  by_cases x1_0 : xs (i + 1).toNatClampNeg = 0
  · refine igp x1_0 ?_
    have y1 : xs (i + 1).toNatClampNeg = I 0 := x1_0
    obtain ⟨r, q1, q2⟩ := m_element (by decide) b1 g0 (xs (i + 2).toNatClampNeg)
    refine bd (by rw [y1]; exact q1) ?_
    refine bg h1 ?_
    refine bg h2 ?_
    refine bd (by rw [y1]; exact q2) ?_
    refine igp (lg_same _) ?_
    exact hn _ _ _ _ _ _ _ _ ⟨P, R, n, nb, hG, hF, hS, hC, hT, hW, hRl, hRd.up, hB, hH⟩
  refine ign x1_0 ?_
  by_cases x1_1 : xs (i + 1).toNatClampNeg = 1
  · refine igp x1_1 ?_
    have y1 : xs (i + 1).toNatClampNeg = I 1 := x1_1
    obtain ⟨r, q1, q2⟩ := m_element (by decide) b1 g1 (xs (i + 2).toNatClampNeg)
    refine bd (by rw [y1]; exact q1) ?_
    refine bg h1 ?_
    refine bg h2 ?_
    refine bd (by rw [y1]; exact q2) ?_
    refine igp (lg_same _) ?_
    exact hn _ _ _ _ _ _ _ _ ⟨P, R, n, nb, hG, hF, hS, hC, hT, hW, hRl, hRd.up, hB, hH⟩
  refine ign x1_1 ?_
  by_cases x1_2 : xs (i + 1).toNatClampNeg = 2
  · refine igp x1_2 ?_
    have y1 : xs (i + 1).toNatClampNeg = I 2 := x1_2
    obtain ⟨r, q1, q2⟩ := m_element (by decide) b1 g2 (xs (i + 2).toNatClampNeg)
    refine bd (by rw [y1]; exact q1) ?_
    refine bg h1 ?_
    refine bg h2 ?_
    refine bd (by rw [y1]; exact q2) ?_
    refine igp (lg_same _) ?_
    exact hn _ _ _ _ _ _ _ _ ⟨P, R, n, nb, hG, hF, hS, hC, hT, hW, hRl, hRd.up, hB, hH⟩
  refine ign x1_2 ?_
  by_cases x1_3 : xs (i + 1).toNatClampNeg = 3
  · refine igp x1_3 ?_
    have y1 : xs (i + 1).toNatClampNeg = I 3 := x1_3
    obtain ⟨r, q1, q2⟩ := m_element (by decide) b1 g3 (xs (i + 2).toNatClampNeg)
    refine bd (by rw [y1]; exact q1) ?_
    refine bg h1 ?_
    refine bg h2 ?_
    refine bd (by rw [y1]; exact q2) ?_
    refine igp (lg_same _) ?_
    exact hn _ _ _ _ _ _ _ _ ⟨P, R, n, nb, hG, hF, hS, hC, hT, hW, hRl, hRd.up, hB, hH⟩
  refine ign x1_3 ?_
  by_cases x1_4 : xs (i + 1).toNatClampNeg = 4
  · refine igp x1_4 ?_
    have y1 : xs (i + 1).toNatClampNeg = I 4 := x1_4
    obtain ⟨r, q1, q2⟩ := m_element (by decide) b1 g4 (xs (i + 2).toNatClampNeg)
    refine bd (by rw [y1]; exact q1) ?_
    refine bg h1 ?_
    refine bg h2 ?_
    refine bd (by rw [y1]; exact q2) ?_
    refine igp (lg_same _) ?_
    exact hn _ _ _ _ _ _ _ _ ⟨P, R, n, nb, hG, hF, hS, hC, hT, hW, hRl, hRd.up, hB, hH⟩
  refine ign x1_4 ?_
  by_cases x1_5 : xs (i + 1).toNatClampNeg = 5
  · refine igp x1_5 ?_
    have y1 : xs (i + 1).toNatClampNeg = I 5 := x1_5
    obtain ⟨r, q1, q2⟩ := m_element (by decide) b1 g5 (xs (i + 2).toNatClampNeg)
    refine bd (by rw [y1]; exact q1) ?_
    refine bg h1 ?_
    refine bg h2 ?_
    refine bd (by rw [y1]; exact q2) ?_
    refine igp (lg_same _) ?_
    exact hn _ _ _ _ _ _ _ _ ⟨P, R, n, nb, hG, hF, hS, hC, hT, hW, hRl, hRd.up, hB, hH⟩
  refine ign x1_5 ?_
  obtain ⟨f1, f2⟩ := shO x1_0 x1_1 x1_2 x1_3 x1_4 x1_5
  have q1 := (o8 f2 (xs (i + 2).toNatClampNeg) 0 0).2.2.2.1
  have q2 : x9_element (ml 0) (ma 33) (ma 34) (xs (i + 1).toNatClampNeg) (xs (i + 2).toNatClampNeg) = some (-9223372036854775808) := by unfold x9_element; rw [f1]; rfl
  refine bd q1 ?_
  refine bg h1 ?_
  refine bg h2 ?_
  refine bd q2 ?_
  refine igp (lg_same _) ?_
  exact hn _ _ _ _ _ _ _ _ ⟨P, R, n, nb, hG, hF, hS, hC, hT, hW, hRl, hRd.up, hB, hH⟩
theorem k_c36 : Case xL_c36 := by
  intro next L xs i c xi xb xa xl mi mb ma ml h hn h1 h2 h3 h4 h5 hc
  obtain ⟨P, R, n, nb, hG, hF, hS, hC, hT, hW, hRl, hRd, hB, hH⟩ := h
  have hG' := hG
  obtain ⟨⟨e11, m0, e12, m1⟩, hL, hro, hpu, a0, a1, a2, a3, a4, a5, a6⟩ := hG'
  have hB0 := hB
  obtain ⟨b1, b2, b3, b4, b5, b6, b7, b8⟩ := hB0
  have hH0 := hH
  obtain ⟨g0, g1, g2, g3, g4, g5⟩ := hH0
  unfold xL_c36
  refine bg h1 ?_
  refine bg h2 ?_
  by_cases x1_0 : xs (i + 1).toNatClampNeg = 0
  · refine igp x1_0 ?_
    have y1 : xs (i + 1).toNatClampNeg = I 0 := x1_0
    obtain ⟨r, q1, q2⟩ := m_taken (by decide) hB g0 (xs (i + 2).toNatClampNeg)
    refine bd (by rw [y1]; exact q1) ?_
    refine bg h1 ?_
    refine bg h2 ?_
    refine bd (by rw [y1]; exact q2) ?_
    refine igp rfl ?_
    exact hn _ _ _ _ _ _ _ _ ⟨P, R, n, nb, hG, hF, hS, hC, hT, hW, hRl, hRd.up, hB, hH⟩
  refine ign x1_0 ?_
  by_cases x1_1 : xs (i + 1).toNatClampNeg = 1
  · refine igp x1_1 ?_
    have y1 : xs (i + 1).toNatClampNeg = I 1 := x1_1
    obtain ⟨r, q1, q2⟩ := m_taken (by decide) hB g1 (xs (i + 2).toNatClampNeg)
    refine bd (by rw [y1]; exact q1) ?_
    refine bg h1 ?_
    refine bg h2 ?_
    refine bd (by rw [y1]; exact q2) ?_
    refine igp rfl ?_
    exact hn _ _ _ _ _ _ _ _ ⟨P, R, n, nb, hG, hF, hS, hC, hT, hW, hRl, hRd.up, hB, hH⟩
  refine ign x1_1 ?_
  by_cases x1_2 : xs (i + 1).toNatClampNeg = 2
  · refine igp x1_2 ?_
    have y1 : xs (i + 1).toNatClampNeg = I 2 := x1_2
    obtain ⟨r, q1, q2⟩ := m_taken (by decide) hB g2 (xs (i + 2).toNatClampNeg)
    refine bd (by rw [y1]; exact q1) ?_
    refine bg h1 ?_
    refine bg h2 ?_
    refine bd (by rw [y1]; exact q2) ?_
    refine igp rfl ?_
    exact hn _ _ _ _ _ _ _ _ ⟨P, R, n, nb, hG, hF, hS, hC, hT, hW, hRl, hRd.up, hB, hH⟩
  refine ign x1_2 ?_
  by_cases x1_3 : xs (i + 1).toNatClampNeg = 3
  · refine igp x1_3 ?_
    have y1 : xs (i + 1).toNatClampNeg = I 3 := x1_3
    obtain ⟨r, q1, q2⟩ := m_taken (by decide) hB g3 (xs (i + 2).toNatClampNeg)
    refine bd (by rw [y1]; exact q1) ?_
    refine bg h1 ?_
    refine bg h2 ?_
    refine bd (by rw [y1]; exact q2) ?_
    refine igp rfl ?_
    exact hn _ _ _ _ _ _ _ _ ⟨P, R, n, nb, hG, hF, hS, hC, hT, hW, hRl, hRd.up, hB, hH⟩
  refine ign x1_3 ?_
  by_cases x1_4 : xs (i + 1).toNatClampNeg = 4
  · refine igp x1_4 ?_
    have y1 : xs (i + 1).toNatClampNeg = I 4 := x1_4
    obtain ⟨r, q1, q2⟩ := m_taken (by decide) hB g4 (xs (i + 2).toNatClampNeg)
    refine bd (by rw [y1]; exact q1) ?_
    refine bg h1 ?_
    refine bg h2 ?_
    refine bd (by rw [y1]; exact q2) ?_
    refine igp rfl ?_
    exact hn _ _ _ _ _ _ _ _ ⟨P, R, n, nb, hG, hF, hS, hC, hT, hW, hRl, hRd.up, hB, hH⟩
  refine ign x1_4 ?_
  by_cases x1_5 : xs (i + 1).toNatClampNeg = 5
  · refine igp x1_5 ?_
    have y1 : xs (i + 1).toNatClampNeg = I 5 := x1_5
    obtain ⟨r, q1, q2⟩ := m_taken (by decide) hB g5 (xs (i + 2).toNatClampNeg)
    refine bd (by rw [y1]; exact q1) ?_
    refine bg h1 ?_
    refine bg h2 ?_
    refine bd (by rw [y1]; exact q2) ?_
    refine igp rfl ?_
    exact hn _ _ _ _ _ _ _ _ ⟨P, R, n, nb, hG, hF, hS, hC, hT, hW, hRl, hRd.up, hB, hH⟩
  refine ign x1_5 ?_
  obtain ⟨f1, f2⟩ := shO x1_0 x1_1 x1_2 x1_3 x1_4 x1_5
  have q1 := (o8 f2 (xs (i + 2).toNatClampNeg) 0 0).2.2.2.2.1
  have q2 : x9_taken (ma 33) (ma 31) (xs (i + 1).toNatClampNeg) (xs (i + 2).toNatClampNeg) = some (-1) := by unfold x9_taken; rw [f1]; rfl
  refine bd q1 ?_
  refine bg h1 ?_
  refine bg h2 ?_
  refine bd q2 ?_
  refine igp rfl ?_
  exact hn _ _ _ _ _ _ _ _ ⟨P, R, n, nb, hG, hF, hS, hC, hT, hW, hRl, hRd.up, hB, hH⟩

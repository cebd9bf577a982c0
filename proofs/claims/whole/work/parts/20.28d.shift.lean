/-! the law's case of shift (laid by mkinv.py) -/
theorem k_c35 : Case xL_c35 := by
  intro next L xs i c xi xb xa xl mi mb ma ml h hn h1 h2 h3 h4 h5 hc
  obtain ⟨P, R, n, nb, hG, hF, hS, hC, hT, hW, hRl, hRd, hB, hH⟩ := h
  have hG' := hG
  obtain ⟨⟨e11, m0, e12, m1⟩, hL, hro, hpu, a0, a1, a2, a3, a4, a5, a6⟩ := hG'
  have hB0 := hB
  obtain ⟨b1, b2, b3, b4, b5, b6, b7, b8⟩ := hB0
  have hH0 := hH
  obtain ⟨g0, g1, g2, g3, g4, g5⟩ := hH0
  unfold xL_c35
  refine bg h1 ?_
  refine bg h2 ?_
  refine bg h3 ?_
  refine bg h4 ?_
  refine bg h5 ?_
  by_cases x1_0 : xs (i + 1).toNatClampNeg = 0
  · refine igp x1_0 ?_
    by_cases x3_0 : xs (i + 3).toNatClampNeg = 0
    · refine igp x3_0 ?_
      have y1 : xs (i + 1).toNatClampNeg = I 0 := x1_0
      have y3 : xs (i + 3).toNatClampNeg = I 0 := x3_0
      obtain ⟨r, c1, el1, mo1, q1, q2, hsh, hfr⟩ := m_shift (mo := ml 1) (by decide) (by decide) b1 g0 g0 (xs (i + 2).toNatClampNeg) (xs (i + 4).toNatClampNeg) (xs (i + 5).toNatClampNeg)
      refine bd (by rw [shift_is_eq, y1, y3]; exact q1) ?_
      refine bg h1 ?_
      refine bg h2 ?_
      refine bg h3 ?_
      refine bg h4 ?_
      refine bg h5 ?_
      refine bd (by rw [y1, y3]; exact q2) ?_
      refine igp rfl ?_
      exact hn _ _ _ _ _ _ _ _ ⟨P, R, n, nb, hG, hF, hS, hC, hT, hW, hRl, hRd.up, hB, ⟨hsh, g1.frame rfl rfl (hfr 1 (by decide)) (Nat.le_refl _), g2.frame rfl rfl (hfr 2 (by decide)) (Nat.le_refl _), g3.frame rfl rfl (hfr 3 (by decide)) (Nat.le_refl _), g4.frame rfl rfl (hfr 4 (by decide)) (Nat.le_refl _), g5.frame rfl rfl (hfr 5 (by decide)) (Nat.le_refl _)⟩⟩
    refine ign x3_0 ?_
    by_cases x3_1 : xs (i + 3).toNatClampNeg = 1
    · refine igp x3_1 ?_
      have y1 : xs (i + 1).toNatClampNeg = I 0 := x1_0
      have y3 : xs (i + 3).toNatClampNeg = I 1 := x3_1
      obtain ⟨r, c1, el1, mo1, q1, q2, hsh, hfr⟩ := m_shift (mo := ml 1) (by decide) (by decide) b1 g0 g1 (xs (i + 2).toNatClampNeg) (xs (i + 4).toNatClampNeg) (xs (i + 5).toNatClampNeg)
      refine bd (by rw [shift_ii_eq, y1, y3]; exact q1) ?_
      refine bg h1 ?_
      refine bg h2 ?_
      refine bg h3 ?_
      refine bg h4 ?_
      refine bg h5 ?_
      refine bd (by rw [y1, y3]; exact q2) ?_
      refine igp rfl ?_
      exact hn _ _ _ _ _ _ _ _ ⟨P, R, n, nb, hG, hF, hS, hC, hT, hW, hRl, hRd.up, hB, ⟨g0.frame rfl rfl (hfr 0 (by decide)) (Nat.le_refl _), hsh, g2.frame rfl rfl (hfr 2 (by decide)) (Nat.le_refl _), g3.frame rfl rfl (hfr 3 (by decide)) (Nat.le_refl _), g4.frame rfl rfl (hfr 4 (by decide)) (Nat.le_refl _), g5.frame rfl rfl (hfr 5 (by decide)) (Nat.le_refl _)⟩⟩
    refine ign x3_1 ?_
    by_cases x3_2 : xs (i + 3).toNatClampNeg = 2
    · refine igp x3_2 ?_
      have y1 : xs (i + 1).toNatClampNeg = I 0 := x1_0
      have y3 : xs (i + 3).toNatClampNeg = I 2 := x3_2
      obtain ⟨r, c1, el1, mo1, q1, q2, hsh, hfr⟩ := m_shift (mo := ml 1) (by decide) (by decide) b1 g0 g2 (xs (i + 2).toNatClampNeg) (xs (i + 4).toNatClampNeg) (xs (i + 5).toNatClampNeg)
      refine bd (by rw [shift_ii_eq, y1, y3]; exact q1) ?_
      refine bg h1 ?_
      refine bg h2 ?_
      refine bg h3 ?_
      refine bg h4 ?_
      refine bg h5 ?_
      refine bd (by rw [y1, y3]; exact q2) ?_
      refine igp rfl ?_
      exact hn _ _ _ _ _ _ _ _ ⟨P, R, n, nb, hG, hF, hS, hC, hT, hW, hRl, hRd.up, hB, ⟨g0.frame rfl rfl (hfr 0 (by decide)) (Nat.le_refl _), g1.frame rfl rfl (hfr 1 (by decide)) (Nat.le_refl _), hsh, g3.frame rfl rfl (hfr 3 (by decide)) (Nat.le_refl _), g4.frame rfl rfl (hfr 4 (by decide)) (Nat.le_refl _), g5.frame rfl rfl (hfr 5 (by decide)) (Nat.le_refl _)⟩⟩
    refine ign x3_2 ?_
    by_cases x3_3 : xs (i + 3).toNatClampNeg = 3
    · refine igp x3_3 ?_
      have y1 : xs (i + 1).toNatClampNeg = I 0 := x1_0
      have y3 : xs (i + 3).toNatClampNeg = I 3 := x3_3
      obtain ⟨r, c1, el1, mo1, q1, q2, hsh, hfr⟩ := m_shift (mo := ml 1) (by decide) (by decide) b1 g0 g3 (xs (i + 2).toNatClampNeg) (xs (i + 4).toNatClampNeg) (xs (i + 5).toNatClampNeg)
      refine bd (by rw [shift_ii_eq, y1, y3]; exact q1) ?_
      refine bg h1 ?_
      refine bg h2 ?_
      refine bg h3 ?_
      refine bg h4 ?_
      refine bg h5 ?_
      refine bd (by rw [y1, y3]; exact q2) ?_
      refine igp rfl ?_
      exact hn _ _ _ _ _ _ _ _ ⟨P, R, n, nb, hG, hF, hS, hC, hT, hW, hRl, hRd.up, hB, ⟨g0.frame rfl rfl (hfr 0 (by decide)) (Nat.le_refl _), g1.frame rfl rfl (hfr 1 (by decide)) (Nat.le_refl _), g2.frame rfl rfl (hfr 2 (by decide)) (Nat.le_refl _), hsh, g4.frame rfl rfl (hfr 4 (by decide)) (Nat.le_refl _), g5.frame rfl rfl (hfr 5 (by decide)) (Nat.le_refl _)⟩⟩
    refine ign x3_3 ?_
    by_cases x3_4 : xs (i + 3).toNatClampNeg = 4
    · refine igp x3_4 ?_
      have y1 : xs (i + 1).toNatClampNeg = I 0 := x1_0
      have y3 : xs (i + 3).toNatClampNeg = I 4 := x3_4
      obtain ⟨r, c1, el1, mo1, q1, q2, hsh, hfr⟩ := m_shift (mo := ml 1) (by decide) (by decide) b1 g0 g4 (xs (i + 2).toNatClampNeg) (xs (i + 4).toNatClampNeg) (xs (i + 5).toNatClampNeg)
      refine bd (by rw [shift_ii_eq, y1, y3]; exact q1) ?_
      refine bg h1 ?_
      refine bg h2 ?_
      refine bg h3 ?_
      refine bg h4 ?_
      refine bg h5 ?_
      refine bd (by rw [y1, y3]; exact q2) ?_
      refine igp rfl ?_
      exact hn _ _ _ _ _ _ _ _ ⟨P, R, n, nb, hG, hF, hS, hC, hT, hW, hRl, hRd.up, hB, ⟨g0.frame rfl rfl (hfr 0 (by decide)) (Nat.le_refl _), g1.frame rfl rfl (hfr 1 (by decide)) (Nat.le_refl _), g2.frame rfl rfl (hfr 2 (by decide)) (Nat.le_refl _), g3.frame rfl rfl (hfr 3 (by decide)) (Nat.le_refl _), hsh, g5.frame rfl rfl (hfr 5 (by decide)) (Nat.le_refl _)⟩⟩
    refine ign x3_4 ?_
    by_cases x3_5 : xs (i + 3).toNatClampNeg = 5
    · refine igp x3_5 ?_
      have y1 : xs (i + 1).toNatClampNeg = I 0 := x1_0
      have y3 : xs (i + 3).toNatClampNeg = I 5 := x3_5
      obtain ⟨r, c1, el1, mo1, q1, q2, hsh, hfr⟩ := m_shift (mo := ml 1) (by decide) (by decide) b1 g0 g5 (xs (i + 2).toNatClampNeg) (xs (i + 4).toNatClampNeg) (xs (i + 5).toNatClampNeg)
      refine bd (by rw [shift_ii_eq, y1, y3]; exact q1) ?_
      refine bg h1 ?_
      refine bg h2 ?_
      refine bg h3 ?_
      refine bg h4 ?_
      refine bg h5 ?_
      refine bd (by rw [y1, y3]; exact q2) ?_
      refine igp rfl ?_
      exact hn _ _ _ _ _ _ _ _ ⟨P, R, n, nb, hG, hF, hS, hC, hT, hW, hRl, hRd.up, hB, ⟨g0.frame rfl rfl (hfr 0 (by decide)) (Nat.le_refl _), g1.frame rfl rfl (hfr 1 (by decide)) (Nat.le_refl _), g2.frame rfl rfl (hfr 2 (by decide)) (Nat.le_refl _), g3.frame rfl rfl (hfr 3 (by decide)) (Nat.le_refl _), g4.frame rfl rfl (hfr 4 (by decide)) (Nat.le_refl _), hsh⟩⟩
    refine ign x3_5 ?_
    have y1 : xs (i + 1).toNatClampNeg = I 0 := x1_0
    obtain ⟨f1, f2, _, _⟩ := shI (s := 0) (by decide)
    rw [← y1] at f1 f2
    obtain ⟨d1, d2⟩ := shO x3_0 x3_1 x3_2 x3_3 x3_4 x3_5
    have q1 : x8_shift_io (xs (i + 1).toNatClampNeg) (xs (i + 2).toNatClampNeg) (xs (i + 3).toNatClampNeg) (xs (i + 4).toNatClampNeg) (xs (i + 5).toNatClampNeg) = some (-1) := by unfold x8_shift_io; rw [f2, Option.bind_some, d2]; rfl
    have q2 : x9_shift (ml 0) (ma 33) (ma 34) (ml 1) (xs (i + 1).toNatClampNeg) (xs (i + 2).toNatClampNeg) (xs (i + 3).toNatClampNeg) (xs (i + 4).toNatClampNeg) (xs (i + 5).toNatClampNeg) = some (-1, ml 0, ml 1) := by unfold x9_shift; rw [f1, Option.bind_some]; rw [bif_t, d1]; rfl
    refine bd q1 ?_
    refine bg h1 ?_
    refine bg h2 ?_
    refine bg h3 ?_
    refine bg h4 ?_
    refine bg h5 ?_
    refine bd q2 ?_
    refine igp rfl ?_
    exact hn _ _ _ _ _ _ _ _ ⟨P, R, n, nb, hG, hF, hS, hC, hT, hW, hRl, hRd.up, hB, hH⟩
  refine ign x1_0 ?_
  by_cases x1_1 : xs (i + 1).toNatClampNeg = 1
  · refine igp x1_1 ?_
    by_cases x3_0 : xs (i + 3).toNatClampNeg = 0
    · refine igp x3_0 ?_
      have y1 : xs (i + 1).toNatClampNeg = I 1 := x1_1
      have y3 : xs (i + 3).toNatClampNeg = I 0 := x3_0
      obtain ⟨r, c1, el1, mo1, q1, q2, hsh, hfr⟩ := m_shift (mo := ml 1) (by decide) (by decide) b1 g1 g0 (xs (i + 2).toNatClampNeg) (xs (i + 4).toNatClampNeg) (xs (i + 5).toNatClampNeg)
      refine bd (by rw [shift_ii_eq, y1, y3]; exact q1) ?_
      refine bg h1 ?_
      refine bg h2 ?_
      refine bg h3 ?_
      refine bg h4 ?_
      refine bg h5 ?_
      refine bd (by rw [y1, y3]; exact q2) ?_
      refine igp rfl ?_
      exact hn _ _ _ _ _ _ _ _ ⟨P, R, n, nb, hG, hF, hS, hC, hT, hW, hRl, hRd.up, hB, ⟨hsh, g1.frame rfl rfl (hfr 1 (by decide)) (Nat.le_refl _), g2.frame rfl rfl (hfr 2 (by decide)) (Nat.le_refl _), g3.frame rfl rfl (hfr 3 (by decide)) (Nat.le_refl _), g4.frame rfl rfl (hfr 4 (by decide)) (Nat.le_refl _), g5.frame rfl rfl (hfr 5 (by decide)) (Nat.le_refl _)⟩⟩
    refine ign x3_0 ?_
    by_cases x3_1 : xs (i + 3).toNatClampNeg = 1
    · refine igp x3_1 ?_
      have y1 : xs (i + 1).toNatClampNeg = I 1 := x1_1
      have y3 : xs (i + 3).toNatClampNeg = I 1 := x3_1
      obtain ⟨r, c1, el1, mo1, q1, q2, hsh, hfr⟩ := m_shift (mo := ml 1) (by decide) (by decide) b1 g1 g1 (xs (i + 2).toNatClampNeg) (xs (i + 4).toNatClampNeg) (xs (i + 5).toNatClampNeg)
      refine bd (by rw [shift_is_eq, y1, y3]; exact q1) ?_
      refine bg h1 ?_
      refine bg h2 ?_
      refine bg h3 ?_
      refine bg h4 ?_
      refine bg h5 ?_
      refine bd (by rw [y1, y3]; exact q2) ?_
      refine igp rfl ?_
      exact hn _ _ _ _ _ _ _ _ ⟨P, R, n, nb, hG, hF, hS, hC, hT, hW, hRl, hRd.up, hB, ⟨g0.frame rfl rfl (hfr 0 (by decide)) (Nat.le_refl _), hsh, g2.frame rfl rfl (hfr 2 (by decide)) (Nat.le_refl _), g3.frame rfl rfl (hfr 3 (by decide)) (Nat.le_refl _), g4.frame rfl rfl (hfr 4 (by decide)) (Nat.le_refl _), g5.frame rfl rfl (hfr 5 (by decide)) (Nat.le_refl _)⟩⟩
    refine ign x3_1 ?_
    by_cases x3_2 : xs (i + 3).toNatClampNeg = 2
    · refine igp x3_2 ?_
      have y1 : xs (i + 1).toNatClampNeg = I 1 := x1_1
      have y3 : xs (i + 3).toNatClampNeg = I 2 := x3_2
      obtain ⟨r, c1, el1, mo1, q1, q2, hsh, hfr⟩ := m_shift (mo := ml 1) (by decide) (by decide) b1 g1 g2 (xs (i + 2).toNatClampNeg) (xs (i + 4).toNatClampNeg) (xs (i + 5).toNatClampNeg)
      refine bd (by rw [shift_ii_eq, y1, y3]; exact q1) ?_
      refine bg h1 ?_
      refine bg h2 ?_
      refine bg h3 ?_
      refine bg h4 ?_
      refine bg h5 ?_
      refine bd (by rw [y1, y3]; exact q2) ?_
      refine igp rfl ?_
      exact hn _ _ _ _ _ _ _ _ ⟨P, R, n, nb, hG, hF, hS, hC, hT, hW, hRl, hRd.up, hB, ⟨g0.frame rfl rfl (hfr 0 (by decide)) (Nat.le_refl _), g1.frame rfl rfl (hfr 1 (by decide)) (Nat.le_refl _), hsh, g3.frame rfl rfl (hfr 3 (by decide)) (Nat.le_refl _), g4.frame rfl rfl (hfr 4 (by decide)) (Nat.le_refl _), g5.frame rfl rfl (hfr 5 (by decide)) (Nat.le_refl _)⟩⟩
    refine ign x3_2 ?_
    by_cases x3_3 : xs (i + 3).toNatClampNeg = 3
    · refine igp x3_3 ?_
      have y1 : xs (i + 1).toNatClampNeg = I 1 := x1_1
      have y3 : xs (i + 3).toNatClampNeg = I 3 := x3_3
      obtain ⟨r, c1, el1, mo1, q1, q2, hsh, hfr⟩ := m_shift (mo := ml 1) (by decide) (by decide) b1 g1 g3 (xs (i + 2).toNatClampNeg) (xs (i + 4).toNatClampNeg) (xs (i + 5).toNatClampNeg)
      refine bd (by rw [shift_ii_eq, y1, y3]; exact q1) ?_
      refine bg h1 ?_
      refine bg h2 ?_
      refine bg h3 ?_
      refine bg h4 ?_
      refine bg h5 ?_
      refine bd (by rw [y1, y3]; exact q2) ?_
      refine igp rfl ?_
      exact hn _ _ _ _ _ _ _ _ ⟨P, R, n, nb, hG, hF, hS, hC, hT, hW, hRl, hRd.up, hB, ⟨g0.frame rfl rfl (hfr 0 (by decide)) (Nat.le_refl _), g1.frame rfl rfl (hfr 1 (by decide)) (Nat.le_refl _), g2.frame rfl rfl (hfr 2 (by decide)) (Nat.le_refl _), hsh, g4.frame rfl rfl (hfr 4 (by decide)) (Nat.le_refl _), g5.frame rfl rfl (hfr 5 (by decide)) (Nat.le_refl _)⟩⟩
    refine ign x3_3 ?_
    by_cases x3_4 : xs (i + 3).toNatClampNeg = 4
    · refine igp x3_4 ?_
      have y1 : xs (i + 1).toNatClampNeg = I 1 := x1_1
      have y3 : xs (i + 3).toNatClampNeg = I 4 := x3_4
      obtain ⟨r, c1, el1, mo1, q1, q2, hsh, hfr⟩ := m_shift (mo := ml 1) (by decide) (by decide) b1 g1 g4 (xs (i + 2).toNatClampNeg) (xs (i + 4).toNatClampNeg) (xs (i + 5).toNatClampNeg)
      refine bd (by rw [shift_ii_eq, y1, y3]; exact q1) ?_
      refine bg h1 ?_
      refine bg h2 ?_
      refine bg h3 ?_
      refine bg h4 ?_
      refine bg h5 ?_
      refine bd (by rw [y1, y3]; exact q2) ?_
      refine igp rfl ?_
      exact hn _ _ _ _ _ _ _ _ ⟨P, R, n, nb, hG, hF, hS, hC, hT, hW, hRl, hRd.up, hB, ⟨g0.frame rfl rfl (hfr 0 (by decide)) (Nat.le_refl _), g1.frame rfl rfl (hfr 1 (by decide)) (Nat.le_refl _), g2.frame rfl rfl (hfr 2 (by decide)) (Nat.le_refl _), g3.frame rfl rfl (hfr 3 (by decide)) (Nat.le_refl _), hsh, g5.frame rfl rfl (hfr 5 (by decide)) (Nat.le_refl _)⟩⟩
    refine ign x3_4 ?_
    by_cases x3_5 : xs (i + 3).toNatClampNeg = 5
    · refine igp x3_5 ?_
      have y1 : xs (i + 1).toNatClampNeg = I 1 := x1_1
      have y3 : xs (i + 3).toNatClampNeg = I 5 := x3_5
      obtain ⟨r, c1, el1, mo1, q1, q2, hsh, hfr⟩ := m_shift (mo := ml 1) (by decide) (by decide) b1 g1 g5 (xs (i + 2).toNatClampNeg) (xs (i + 4).toNatClampNeg) (xs (i + 5).toNatClampNeg)
      refine bd (by rw [shift_ii_eq, y1, y3]; exact q1) ?_
      refine bg h1 ?_
      refine bg h2 ?_
      refine bg h3 ?_
      refine bg h4 ?_
      refine bg h5 ?_
      refine bd (by rw [y1, y3]; exact q2) ?_
      refine igp rfl ?_
      exact hn _ _ _ _ _ _ _ _ ⟨P, R, n, nb, hG, hF, hS, hC, hT, hW, hRl, hRd.up, hB, ⟨g0.frame rfl rfl (hfr 0 (by decide)) (Nat.le_refl _), g1.frame rfl rfl (hfr 1 (by decide)) (Nat.le_refl _), g2.frame rfl rfl (hfr 2 (by decide)) (Nat.le_refl _), g3.frame rfl rfl (hfr 3 (by decide)) (Nat.le_refl _), g4.frame rfl rfl (hfr 4 (by decide)) (Nat.le_refl _), hsh⟩⟩
    refine ign x3_5 ?_
    have y1 : xs (i + 1).toNatClampNeg = I 1 := x1_1
    obtain ⟨f1, f2, _, _⟩ := shI (s := 1) (by decide)
    rw [← y1] at f1 f2
    obtain ⟨d1, d2⟩ := shO x3_0 x3_1 x3_2 x3_3 x3_4 x3_5
    have q1 : x8_shift_io (xs (i + 1).toNatClampNeg) (xs (i + 2).toNatClampNeg) (xs (i + 3).toNatClampNeg) (xs (i + 4).toNatClampNeg) (xs (i + 5).toNatClampNeg) = some (-1) := by unfold x8_shift_io; rw [f2, Option.bind_some, d2]; rfl
    have q2 : x9_shift (ml 0) (ma 33) (ma 34) (ml 1) (xs (i + 1).toNatClampNeg) (xs (i + 2).toNatClampNeg) (xs (i + 3).toNatClampNeg) (xs (i + 4).toNatClampNeg) (xs (i + 5).toNatClampNeg) = some (-1, ml 0, ml 1) := by unfold x9_shift; rw [f1, Option.bind_some]; rw [bif_t, d1]; rfl
    refine bd q1 ?_
    refine bg h1 ?_
    refine bg h2 ?_
    refine bg h3 ?_
    refine bg h4 ?_
    refine bg h5 ?_
    refine bd q2 ?_
    refine igp rfl ?_
    exact hn _ _ _ _ _ _ _ _ ⟨P, R, n, nb, hG, hF, hS, hC, hT, hW, hRl, hRd.up, hB, hH⟩
  refine ign x1_1 ?_
  by_cases x1_2 : xs (i + 1).toNatClampNeg = 2
  · refine igp x1_2 ?_
    by_cases x3_0 : xs (i + 3).toNatClampNeg = 0
    · refine igp x3_0 ?_
      have y1 : xs (i + 1).toNatClampNeg = I 2 := x1_2
      have y3 : xs (i + 3).toNatClampNeg = I 0 := x3_0
      obtain ⟨r, c1, el1, mo1, q1, q2, hsh, hfr⟩ := m_shift (mo := ml 1) (by decide) (by decide) b1 g2 g0 (xs (i + 2).toNatClampNeg) (xs (i + 4).toNatClampNeg) (xs (i + 5).toNatClampNeg)
      refine bd (by rw [shift_ii_eq, y1, y3]; exact q1) ?_
      refine bg h1 ?_
      refine bg h2 ?_
      refine bg h3 ?_
      refine bg h4 ?_
      refine bg h5 ?_
      refine bd (by rw [y1, y3]; exact q2) ?_
      refine igp rfl ?_
      exact hn _ _ _ _ _ _ _ _ ⟨P, R, n, nb, hG, hF, hS, hC, hT, hW, hRl, hRd.up, hB, ⟨hsh, g1.frame rfl rfl (hfr 1 (by decide)) (Nat.le_refl _), g2.frame rfl rfl (hfr 2 (by decide)) (Nat.le_refl _), g3.frame rfl rfl (hfr 3 (by decide)) (Nat.le_refl _), g4.frame rfl rfl (hfr 4 (by decide)) (Nat.le_refl _), g5.frame rfl rfl (hfr 5 (by decide)) (Nat.le_refl _)⟩⟩
    refine ign x3_0 ?_
    by_cases x3_1 : xs (i + 3).toNatClampNeg = 1
    · refine igp x3_1 ?_
      have y1 : xs (i + 1).toNatClampNeg = I 2 := x1_2
      have y3 : xs (i + 3).toNatClampNeg = I 1 := x3_1
      obtain ⟨r, c1, el1, mo1, q1, q2, hsh, hfr⟩ := m_shift (mo := ml 1) (by decide) (by decide) b1 g2 g1 (xs (i + 2).toNatClampNeg) (xs (i + 4).toNatClampNeg) (xs (i + 5).toNatClampNeg)
      refine bd (by rw [shift_ii_eq, y1, y3]; exact q1) ?_
      refine bg h1 ?_
      refine bg h2 ?_
      refine bg h3 ?_
      refine bg h4 ?_
      refine bg h5 ?_
      refine bd (by rw [y1, y3]; exact q2) ?_
      refine igp rfl ?_
      exact hn _ _ _ _ _ _ _ _ ⟨P, R, n, nb, hG, hF, hS, hC, hT, hW, hRl, hRd.up, hB, ⟨g0.frame rfl rfl (hfr 0 (by decide)) (Nat.le_refl _), hsh, g2.frame rfl rfl (hfr 2 (by decide)) (Nat.le_refl _), g3.frame rfl rfl (hfr 3 (by decide)) (Nat.le_refl _), g4.frame rfl rfl (hfr 4 (by decide)) (Nat.le_refl _), g5.frame rfl rfl (hfr 5 (by decide)) (Nat.le_refl _)⟩⟩
    refine ign x3_1 ?_
    by_cases x3_2 : xs (i + 3).toNatClampNeg = 2
    · refine igp x3_2 ?_
      have y1 : xs (i + 1).toNatClampNeg = I 2 := x1_2
      have y3 : xs (i + 3).toNatClampNeg = I 2 := x3_2
      obtain ⟨r, c1, el1, mo1, q1, q2, hsh, hfr⟩ := m_shift (mo := ml 1) (by decide) (by decide) b1 g2 g2 (xs (i + 2).toNatClampNeg) (xs (i + 4).toNatClampNeg) (xs (i + 5).toNatClampNeg)
      refine bd (by rw [shift_is_eq, y1, y3]; exact q1) ?_
      refine bg h1 ?_
      refine bg h2 ?_
      refine bg h3 ?_
      refine bg h4 ?_
      refine bg h5 ?_
      refine bd (by rw [y1, y3]; exact q2) ?_
      refine igp rfl ?_
      exact hn _ _ _ _ _ _ _ _ ⟨P, R, n, nb, hG, hF, hS, hC, hT, hW, hRl, hRd.up, hB, ⟨g0.frame rfl rfl (hfr 0 (by decide)) (Nat.le_refl _), g1.frame rfl rfl (hfr 1 (by decide)) (Nat.le_refl _), hsh, g3.frame rfl rfl (hfr 3 (by decide)) (Nat.le_refl _), g4.frame rfl rfl (hfr 4 (by decide)) (Nat.le_refl _), g5.frame rfl rfl (hfr 5 (by decide)) (Nat.le_refl _)⟩⟩
    refine ign x3_2 ?_
    by_cases x3_3 : xs (i + 3).toNatClampNeg = 3
    · refine igp x3_3 ?_
      have y1 : xs (i + 1).toNatClampNeg = I 2 := x1_2
      have y3 : xs (i + 3).toNatClampNeg = I 3 := x3_3
      obtain ⟨r, c1, el1, mo1, q1, q2, hsh, hfr⟩ := m_shift (mo := ml 1) (by decide) (by decide) b1 g2 g3 (xs (i + 2).toNatClampNeg) (xs (i + 4).toNatClampNeg) (xs (i + 5).toNatClampNeg)
      refine bd (by rw [shift_ii_eq, y1, y3]; exact q1) ?_
      refine bg h1 ?_
      refine bg h2 ?_
      refine bg h3 ?_
      refine bg h4 ?_
      refine bg h5 ?_
      refine bd (by rw [y1, y3]; exact q2) ?_
      refine igp rfl ?_
      exact hn _ _ _ _ _ _ _ _ ⟨P, R, n, nb, hG, hF, hS, hC, hT, hW, hRl, hRd.up, hB, ⟨g0.frame rfl rfl (hfr 0 (by decide)) (Nat.le_refl _), g1.frame rfl rfl (hfr 1 (by decide)) (Nat.le_refl _), g2.frame rfl rfl (hfr 2 (by decide)) (Nat.le_refl _), hsh, g4.frame rfl rfl (hfr 4 (by decide)) (Nat.le_refl _), g5.frame rfl rfl (hfr 5 (by decide)) (Nat.le_refl _)⟩⟩
    refine ign x3_3 ?_
    by_cases x3_4 : xs (i + 3).toNatClampNeg = 4
    · refine igp x3_4 ?_
      have y1 : xs (i + 1).toNatClampNeg = I 2 := x1_2
      have y3 : xs (i + 3).toNatClampNeg = I 4 := x3_4
      obtain ⟨r, c1, el1, mo1, q1, q2, hsh, hfr⟩ := m_shift (mo := ml 1) (by decide) (by decide) b1 g2 g4 (xs (i + 2).toNatClampNeg) (xs (i + 4).toNatClampNeg) (xs (i + 5).toNatClampNeg)
      refine bd (by rw [shift_ii_eq, y1, y3]; exact q1) ?_
      refine bg h1 ?_
      refine bg h2 ?_
      refine bg h3 ?_
      refine bg h4 ?_
      refine bg h5 ?_
      refine bd (by rw [y1, y3]; exact q2) ?_
      refine igp rfl ?_
      exact hn _ _ _ _ _ _ _ _ ⟨P, R, n, nb, hG, hF, hS, hC, hT, hW, hRl, hRd.up, hB, ⟨g0.frame rfl rfl (hfr 0 (by decide)) (Nat.le_refl _), g1.frame rfl rfl (hfr 1 (by decide)) (Nat.le_refl _), g2.frame rfl rfl (hfr 2 (by decide)) (Nat.le_refl _), g3.frame rfl rfl (hfr 3 (by decide)) (Nat.le_refl _), hsh, g5.frame rfl rfl (hfr 5 (by decide)) (Nat.le_refl _)⟩⟩
    refine ign x3_4 ?_
    by_cases x3_5 : xs (i + 3).toNatClampNeg = 5
    · refine igp x3_5 ?_
      have y1 : xs (i + 1).toNatClampNeg = I 2 := x1_2
      have y3 : xs (i + 3).toNatClampNeg = I 5 := x3_5
      obtain ⟨r, c1, el1, mo1, q1, q2, hsh, hfr⟩ := m_shift (mo := ml 1) (by decide) (by decide) b1 g2 g5 (xs (i + 2).toNatClampNeg) (xs (i + 4).toNatClampNeg) (xs (i + 5).toNatClampNeg)
      refine bd (by rw [shift_ii_eq, y1, y3]; exact q1) ?_
      refine bg h1 ?_
      refine bg h2 ?_
      refine bg h3 ?_
      refine bg h4 ?_
      refine bg h5 ?_
      refine bd (by rw [y1, y3]; exact q2) ?_
      refine igp rfl ?_
      exact hn _ _ _ _ _ _ _ _ ⟨P, R, n, nb, hG, hF, hS, hC, hT, hW, hRl, hRd.up, hB, ⟨g0.frame rfl rfl (hfr 0 (by decide)) (Nat.le_refl _), g1.frame rfl rfl (hfr 1 (by decide)) (Nat.le_refl _), g2.frame rfl rfl (hfr 2 (by decide)) (Nat.le_refl _), g3.frame rfl rfl (hfr 3 (by decide)) (Nat.le_refl _), g4.frame rfl rfl (hfr 4 (by decide)) (Nat.le_refl _), hsh⟩⟩
    refine ign x3_5 ?_
    have y1 : xs (i + 1).toNatClampNeg = I 2 := x1_2
    obtain ⟨f1, f2, _, _⟩ := shI (s := 2) (by decide)
    rw [← y1] at f1 f2
    obtain ⟨d1, d2⟩ := shO x3_0 x3_1 x3_2 x3_3 x3_4 x3_5
    have q1 : x8_shift_io (xs (i + 1).toNatClampNeg) (xs (i + 2).toNatClampNeg) (xs (i + 3).toNatClampNeg) (xs (i + 4).toNatClampNeg) (xs (i + 5).toNatClampNeg) = some (-1) := by unfold x8_shift_io; rw [f2, Option.bind_some, d2]; rfl
    have q2 : x9_shift (ml 0) (ma 33) (ma 34) (ml 1) (xs (i + 1).toNatClampNeg) (xs (i + 2).toNatClampNeg) (xs (i + 3).toNatClampNeg) (xs (i + 4).toNatClampNeg) (xs (i + 5).toNatClampNeg) = some (-1, ml 0, ml 1) := by unfold x9_shift; rw [f1, Option.bind_some]; rw [bif_t, d1]; rfl
    refine bd q1 ?_
    refine bg h1 ?_
    refine bg h2 ?_
    refine bg h3 ?_
    refine bg h4 ?_
    refine bg h5 ?_
    refine bd q2 ?_
    refine igp rfl ?_
    exact hn _ _ _ _ _ _ _ _ ⟨P, R, n, nb, hG, hF, hS, hC, hT, hW, hRl, hRd.up, hB, hH⟩
  refine ign x1_2 ?_
  by_cases x1_3 : xs (i + 1).toNatClampNeg = 3
  · refine igp x1_3 ?_
    by_cases x3_0 : xs (i + 3).toNatClampNeg = 0
    · refine igp x3_0 ?_
      have y1 : xs (i + 1).toNatClampNeg = I 3 := x1_3
      have y3 : xs (i + 3).toNatClampNeg = I 0 := x3_0
      obtain ⟨r, c1, el1, mo1, q1, q2, hsh, hfr⟩ := m_shift (mo := ml 1) (by decide) (by decide) b1 g3 g0 (xs (i + 2).toNatClampNeg) (xs (i + 4).toNatClampNeg) (xs (i + 5).toNatClampNeg)
      refine bd (by rw [shift_ii_eq, y1, y3]; exact q1) ?_
      refine bg h1 ?_
      refine bg h2 ?_
      refine bg h3 ?_
      refine bg h4 ?_
      refine bg h5 ?_
      refine bd (by rw [y1, y3]; exact q2) ?_
      refine igp rfl ?_
      exact hn _ _ _ _ _ _ _ _ ⟨P, R, n, nb, hG, hF, hS, hC, hT, hW, hRl, hRd.up, hB, ⟨hsh, g1.frame rfl rfl (hfr 1 (by decide)) (Nat.le_refl _), g2.frame rfl rfl (hfr 2 (by decide)) (Nat.le_refl _), g3.frame rfl rfl (hfr 3 (by decide)) (Nat.le_refl _), g4.frame rfl rfl (hfr 4 (by decide)) (Nat.le_refl _), g5.frame rfl rfl (hfr 5 (by decide)) (Nat.le_refl _)⟩⟩
    refine ign x3_0 ?_
    by_cases x3_1 : xs (i + 3).toNatClampNeg = 1
    · refine igp x3_1 ?_
      have y1 : xs (i + 1).toNatClampNeg = I 3 := x1_3
      have y3 : xs (i + 3).toNatClampNeg = I 1 := x3_1
      obtain ⟨r, c1, el1, mo1, q1, q2, hsh, hfr⟩ := m_shift (mo := ml 1) (by decide) (by decide) b1 g3 g1 (xs (i + 2).toNatClampNeg) (xs (i + 4).toNatClampNeg) (xs (i + 5).toNatClampNeg)
      refine bd (by rw [shift_ii_eq, y1, y3]; exact q1) ?_
      refine bg h1 ?_
      refine bg h2 ?_
      refine bg h3 ?_
      refine bg h4 ?_
      refine bg h5 ?_
      refine bd (by rw [y1, y3]; exact q2) ?_
      refine igp rfl ?_
      exact hn _ _ _ _ _ _ _ _ ⟨P, R, n, nb, hG, hF, hS, hC, hT, hW, hRl, hRd.up, hB, ⟨g0.frame rfl rfl (hfr 0 (by decide)) (Nat.le_refl _), hsh, g2.frame rfl rfl (hfr 2 (by decide)) (Nat.le_refl _), g3.frame rfl rfl (hfr 3 (by decide)) (Nat.le_refl _), g4.frame rfl rfl (hfr 4 (by decide)) (Nat.le_refl _), g5.frame rfl rfl (hfr 5 (by decide)) (Nat.le_refl _)⟩⟩
    refine ign x3_1 ?_
    by_cases x3_2 : xs (i + 3).toNatClampNeg = 2
    · refine igp x3_2 ?_
      have y1 : xs (i + 1).toNatClampNeg = I 3 := x1_3
      have y3 : xs (i + 3).toNatClampNeg = I 2 := x3_2
      obtain ⟨r, c1, el1, mo1, q1, q2, hsh, hfr⟩ := m_shift (mo := ml 1) (by decide) (by decide) b1 g3 g2 (xs (i + 2).toNatClampNeg) (xs (i + 4).toNatClampNeg) (xs (i + 5).toNatClampNeg)
      refine bd (by rw [shift_ii_eq, y1, y3]; exact q1) ?_
      refine bg h1 ?_
      refine bg h2 ?_
      refine bg h3 ?_
      refine bg h4 ?_
      refine bg h5 ?_
      refine bd (by rw [y1, y3]; exact q2) ?_
      refine igp rfl ?_
      exact hn _ _ _ _ _ _ _ _ ⟨P, R, n, nb, hG, hF, hS, hC, hT, hW, hRl, hRd.up, hB, ⟨g0.frame rfl rfl (hfr 0 (by decide)) (Nat.le_refl _), g1.frame rfl rfl (hfr 1 (by decide)) (Nat.le_refl _), hsh, g3.frame rfl rfl (hfr 3 (by decide)) (Nat.le_refl _), g4.frame rfl rfl (hfr 4 (by decide)) (Nat.le_refl _), g5.frame rfl rfl (hfr 5 (by decide)) (Nat.le_refl _)⟩⟩
    refine ign x3_2 ?_
    by_cases x3_3 : xs (i + 3).toNatClampNeg = 3
    · refine igp x3_3 ?_
      have y1 : xs (i + 1).toNatClampNeg = I 3 := x1_3
      have y3 : xs (i + 3).toNatClampNeg = I 3 := x3_3
      obtain ⟨r, c1, el1, mo1, q1, q2, hsh, hfr⟩ := m_shift (mo := ml 1) (by decide) (by decide) b1 g3 g3 (xs (i + 2).toNatClampNeg) (xs (i + 4).toNatClampNeg) (xs (i + 5).toNatClampNeg)
      refine bd (by rw [shift_is_eq, y1, y3]; exact q1) ?_
      refine bg h1 ?_
      refine bg h2 ?_
      refine bg h3 ?_
      refine bg h4 ?_
      refine bg h5 ?_
      refine bd (by rw [y1, y3]; exact q2) ?_
      refine igp rfl ?_
      exact hn _ _ _ _ _ _ _ _ ⟨P, R, n, nb, hG, hF, hS, hC, hT, hW, hRl, hRd.up, hB, ⟨g0.frame rfl rfl (hfr 0 (by decide)) (Nat.le_refl _), g1.frame rfl rfl (hfr 1 (by decide)) (Nat.le_refl _), g2.frame rfl rfl (hfr 2 (by decide)) (Nat.le_refl _), hsh, g4.frame rfl rfl (hfr 4 (by decide)) (Nat.le_refl _), g5.frame rfl rfl (hfr 5 (by decide)) (Nat.le_refl _)⟩⟩
    refine ign x3_3 ?_
    by_cases x3_4 : xs (i + 3).toNatClampNeg = 4
    · refine igp x3_4 ?_
      have y1 : xs (i + 1).toNatClampNeg = I 3 := x1_3
      have y3 : xs (i + 3).toNatClampNeg = I 4 := x3_4
      obtain ⟨r, c1, el1, mo1, q1, q2, hsh, hfr⟩ := m_shift (mo := ml 1) (by decide) (by decide) b1 g3 g4 (xs (i + 2).toNatClampNeg) (xs (i + 4).toNatClampNeg) (xs (i + 5).toNatClampNeg)
      refine bd (by rw [shift_ii_eq, y1, y3]; exact q1) ?_
      refine bg h1 ?_
      refine bg h2 ?_
      refine bg h3 ?_
      refine bg h4 ?_
      refine bg h5 ?_
      refine bd (by rw [y1, y3]; exact q2) ?_
      refine igp rfl ?_
      exact hn _ _ _ _ _ _ _ _ ⟨P, R, n, nb, hG, hF, hS, hC, hT, hW, hRl, hRd.up, hB, ⟨g0.frame rfl rfl (hfr 0 (by decide)) (Nat.le_refl _), g1.frame rfl rfl (hfr 1 (by decide)) (Nat.le_refl _), g2.frame rfl rfl (hfr 2 (by decide)) (Nat.le_refl _), g3.frame rfl rfl (hfr 3 (by decide)) (Nat.le_refl _), hsh, g5.frame rfl rfl (hfr 5 (by decide)) (Nat.le_refl _)⟩⟩
    refine ign x3_4 ?_
    by_cases x3_5 : xs (i + 3).toNatClampNeg = 5
    · refine igp x3_5 ?_
      have y1 : xs (i + 1).toNatClampNeg = I 3 := x1_3
      have y3 : xs (i + 3).toNatClampNeg = I 5 := x3_5
      obtain ⟨r, c1, el1, mo1, q1, q2, hsh, hfr⟩ := m_shift (mo := ml 1) (by decide) (by decide) b1 g3 g5 (xs (i + 2).toNatClampNeg) (xs (i + 4).toNatClampNeg) (xs (i + 5).toNatClampNeg)
      refine bd (by rw [shift_ii_eq, y1, y3]; exact q1) ?_
      refine bg h1 ?_
      refine bg h2 ?_
      refine bg h3 ?_
      refine bg h4 ?_
      refine bg h5 ?_
      refine bd (by rw [y1, y3]; exact q2) ?_
      refine igp rfl ?_
      exact hn _ _ _ _ _ _ _ _ ⟨P, R, n, nb, hG, hF, hS, hC, hT, hW, hRl, hRd.up, hB, ⟨g0.frame rfl rfl (hfr 0 (by decide)) (Nat.le_refl _), g1.frame rfl rfl (hfr 1 (by decide)) (Nat.le_refl _), g2.frame rfl rfl (hfr 2 (by decide)) (Nat.le_refl _), g3.frame rfl rfl (hfr 3 (by decide)) (Nat.le_refl _), g4.frame rfl rfl (hfr 4 (by decide)) (Nat.le_refl _), hsh⟩⟩
    refine ign x3_5 ?_
    have y1 : xs (i + 1).toNatClampNeg = I 3 := x1_3
    obtain ⟨f1, f2, _, _⟩ := shI (s := 3) (by decide)
    rw [← y1] at f1 f2
    obtain ⟨d1, d2⟩ := shO x3_0 x3_1 x3_2 x3_3 x3_4 x3_5
    have q1 : x8_shift_io (xs (i + 1).toNatClampNeg) (xs (i + 2).toNatClampNeg) (xs (i + 3).toNatClampNeg) (xs (i + 4).toNatClampNeg) (xs (i + 5).toNatClampNeg) = some (-1) := by unfold x8_shift_io; rw [f2, Option.bind_some, d2]; rfl
    have q2 : x9_shift (ml 0) (ma 33) (ma 34) (ml 1) (xs (i + 1).toNatClampNeg) (xs (i + 2).toNatClampNeg) (xs (i + 3).toNatClampNeg) (xs (i + 4).toNatClampNeg) (xs (i + 5).toNatClampNeg) = some (-1, ml 0, ml 1) := by unfold x9_shift; rw [f1, Option.bind_some]; rw [bif_t, d1]; rfl
    refine bd q1 ?_
    refine bg h1 ?_
    refine bg h2 ?_
    refine bg h3 ?_
    refine bg h4 ?_
    refine bg h5 ?_
    refine bd q2 ?_
    refine igp rfl ?_
    exact hn _ _ _ _ _ _ _ _ ⟨P, R, n, nb, hG, hF, hS, hC, hT, hW, hRl, hRd.up, hB, hH⟩
  refine ign x1_3 ?_
  by_cases x1_4 : xs (i + 1).toNatClampNeg = 4
  · refine igp x1_4 ?_
    by_cases x3_0 : xs (i + 3).toNatClampNeg = 0
    · refine igp x3_0 ?_
      have y1 : xs (i + 1).toNatClampNeg = I 4 := x1_4
      have y3 : xs (i + 3).toNatClampNeg = I 0 := x3_0
      obtain ⟨r, c1, el1, mo1, q1, q2, hsh, hfr⟩ := m_shift (mo := ml 1) (by decide) (by decide) b1 g4 g0 (xs (i + 2).toNatClampNeg) (xs (i + 4).toNatClampNeg) (xs (i + 5).toNatClampNeg)
      refine bd (by rw [shift_ii_eq, y1, y3]; exact q1) ?_
      refine bg h1 ?_
      refine bg h2 ?_
      refine bg h3 ?_
      refine bg h4 ?_
      refine bg h5 ?_
      refine bd (by rw [y1, y3]; exact q2) ?_
      refine igp rfl ?_
      exact hn _ _ _ _ _ _ _ _ ⟨P, R, n, nb, hG, hF, hS, hC, hT, hW, hRl, hRd.up, hB, ⟨hsh, g1.frame rfl rfl (hfr 1 (by decide)) (Nat.le_refl _), g2.frame rfl rfl (hfr 2 (by decide)) (Nat.le_refl _), g3.frame rfl rfl (hfr 3 (by decide)) (Nat.le_refl _), g4.frame rfl rfl (hfr 4 (by decide)) (Nat.le_refl _), g5.frame rfl rfl (hfr 5 (by decide)) (Nat.le_refl _)⟩⟩
    refine ign x3_0 ?_
    by_cases x3_1 : xs (i + 3).toNatClampNeg = 1
    · refine igp x3_1 ?_
      have y1 : xs (i + 1).toNatClampNeg = I 4 := x1_4
      have y3 : xs (i + 3).toNatClampNeg = I 1 := x3_1
      obtain ⟨r, c1, el1, mo1, q1, q2, hsh, hfr⟩ := m_shift (mo := ml 1) (by decide) (by decide) b1 g4 g1 (xs (i + 2).toNatClampNeg) (xs (i + 4).toNatClampNeg) (xs (i + 5).toNatClampNeg)
      refine bd (by rw [shift_ii_eq, y1, y3]; exact q1) ?_
      refine bg h1 ?_
      refine bg h2 ?_
      refine bg h3 ?_
      refine bg h4 ?_
      refine bg h5 ?_
      refine bd (by rw [y1, y3]; exact q2) ?_
      refine igp rfl ?_
      exact hn _ _ _ _ _ _ _ _ ⟨P, R, n, nb, hG, hF, hS, hC, hT, hW, hRl, hRd.up, hB, ⟨g0.frame rfl rfl (hfr 0 (by decide)) (Nat.le_refl _), hsh, g2.frame rfl rfl (hfr 2 (by decide)) (Nat.le_refl _), g3.frame rfl rfl (hfr 3 (by decide)) (Nat.le_refl _), g4.frame rfl rfl (hfr 4 (by decide)) (Nat.le_refl _), g5.frame rfl rfl (hfr 5 (by decide)) (Nat.le_refl _)⟩⟩
    refine ign x3_1 ?_
    by_cases x3_2 : xs (i + 3).toNatClampNeg = 2
    · refine igp x3_2 ?_
      have y1 : xs (i + 1).toNatClampNeg = I 4 := x1_4
      have y3 : xs (i + 3).toNatClampNeg = I 2 := x3_2
      obtain ⟨r, c1, el1, mo1, q1, q2, hsh, hfr⟩ := m_shift (mo := ml 1) (by decide) (by decide) b1 g4 g2 (xs (i + 2).toNatClampNeg) (xs (i + 4).toNatClampNeg) (xs (i + 5).toNatClampNeg)
      refine bd (by rw [shift_ii_eq, y1, y3]; exact q1) ?_
      refine bg h1 ?_
      refine bg h2 ?_
      refine bg h3 ?_
      refine bg h4 ?_
      refine bg h5 ?_
      refine bd (by rw [y1, y3]; exact q2) ?_
      refine igp rfl ?_
      exact hn _ _ _ _ _ _ _ _ ⟨P, R, n, nb, hG, hF, hS, hC, hT, hW, hRl, hRd.up, hB, ⟨g0.frame rfl rfl (hfr 0 (by decide)) (Nat.le_refl _), g1.frame rfl rfl (hfr 1 (by decide)) (Nat.le_refl _), hsh, g3.frame rfl rfl (hfr 3 (by decide)) (Nat.le_refl _), g4.frame rfl rfl (hfr 4 (by decide)) (Nat.le_refl _), g5.frame rfl rfl (hfr 5 (by decide)) (Nat.le_refl _)⟩⟩
    refine ign x3_2 ?_
    by_cases x3_3 : xs (i + 3).toNatClampNeg = 3
    · refine igp x3_3 ?_
      have y1 : xs (i + 1).toNatClampNeg = I 4 := x1_4
      have y3 : xs (i + 3).toNatClampNeg = I 3 := x3_3
      obtain ⟨r, c1, el1, mo1, q1, q2, hsh, hfr⟩ := m_shift (mo := ml 1) (by decide) (by decide) b1 g4 g3 (xs (i + 2).toNatClampNeg) (xs (i + 4).toNatClampNeg) (xs (i + 5).toNatClampNeg)
      refine bd (by rw [shift_ii_eq, y1, y3]; exact q1) ?_
      refine bg h1 ?_
      refine bg h2 ?_
      refine bg h3 ?_
      refine bg h4 ?_
      refine bg h5 ?_
      refine bd (by rw [y1, y3]; exact q2) ?_
      refine igp rfl ?_
      exact hn _ _ _ _ _ _ _ _ ⟨P, R, n, nb, hG, hF, hS, hC, hT, hW, hRl, hRd.up, hB, ⟨g0.frame rfl rfl (hfr 0 (by decide)) (Nat.le_refl _), g1.frame rfl rfl (hfr 1 (by decide)) (Nat.le_refl _), g2.frame rfl rfl (hfr 2 (by decide)) (Nat.le_refl _), hsh, g4.frame rfl rfl (hfr 4 (by decide)) (Nat.le_refl _), g5.frame rfl rfl (hfr 5 (by decide)) (Nat.le_refl _)⟩⟩
    refine ign x3_3 ?_
    by_cases x3_4 : xs (i + 3).toNatClampNeg = 4
    · refine igp x3_4 ?_
      have y1 : xs (i + 1).toNatClampNeg = I 4 := x1_4
      have y3 : xs (i + 3).toNatClampNeg = I 4 := x3_4
      obtain ⟨r, c1, el1, mo1, q1, q2, hsh, hfr⟩ := m_shift (mo := ml 1) (by decide) (by decide) b1 g4 g4 (xs (i + 2).toNatClampNeg) (xs (i + 4).toNatClampNeg) (xs (i + 5).toNatClampNeg)
      refine bd (by rw [shift_is_eq, y1, y3]; exact q1) ?_
      refine bg h1 ?_
      refine bg h2 ?_
      refine bg h3 ?_
      refine bg h4 ?_
      refine bg h5 ?_
      refine bd (by rw [y1, y3]; exact q2) ?_
      refine igp rfl ?_
      exact hn _ _ _ _ _ _ _ _ ⟨P, R, n, nb, hG, hF, hS, hC, hT, hW, hRl, hRd.up, hB, ⟨g0.frame rfl rfl (hfr 0 (by decide)) (Nat.le_refl _), g1.frame rfl rfl (hfr 1 (by decide)) (Nat.le_refl _), g2.frame rfl rfl (hfr 2 (by decide)) (Nat.le_refl _), g3.frame rfl rfl (hfr 3 (by decide)) (Nat.le_refl _), hsh, g5.frame rfl rfl (hfr 5 (by decide)) (Nat.le_refl _)⟩⟩
    refine ign x3_4 ?_
    by_cases x3_5 : xs (i + 3).toNatClampNeg = 5
    · refine igp x3_5 ?_
      have y1 : xs (i + 1).toNatClampNeg = I 4 := x1_4
      have y3 : xs (i + 3).toNatClampNeg = I 5 := x3_5
      obtain ⟨r, c1, el1, mo1, q1, q2, hsh, hfr⟩ := m_shift (mo := ml 1) (by decide) (by decide) b1 g4 g5 (xs (i + 2).toNatClampNeg) (xs (i + 4).toNatClampNeg) (xs (i + 5).toNatClampNeg)
      refine bd (by rw [shift_ii_eq, y1, y3]; exact q1) ?_
      refine bg h1 ?_
      refine bg h2 ?_
      refine bg h3 ?_
      refine bg h4 ?_
      refine bg h5 ?_
      refine bd (by rw [y1, y3]; exact q2) ?_
      refine igp rfl ?_
      exact hn _ _ _ _ _ _ _ _ ⟨P, R, n, nb, hG, hF, hS, hC, hT, hW, hRl, hRd.up, hB, ⟨g0.frame rfl rfl (hfr 0 (by decide)) (Nat.le_refl _), g1.frame rfl rfl (hfr 1 (by decide)) (Nat.le_refl _), g2.frame rfl rfl (hfr 2 (by decide)) (Nat.le_refl _), g3.frame rfl rfl (hfr 3 (by decide)) (Nat.le_refl _), g4.frame rfl rfl (hfr 4 (by decide)) (Nat.le_refl _), hsh⟩⟩
    refine ign x3_5 ?_
    have y1 : xs (i + 1).toNatClampNeg = I 4 := x1_4
    obtain ⟨f1, f2, _, _⟩ := shI (s := 4) (by decide)
    rw [← y1] at f1 f2
    obtain ⟨d1, d2⟩ := shO x3_0 x3_1 x3_2 x3_3 x3_4 x3_5
    have q1 : x8_shift_io (xs (i + 1).toNatClampNeg) (xs (i + 2).toNatClampNeg) (xs (i + 3).toNatClampNeg) (xs (i + 4).toNatClampNeg) (xs (i + 5).toNatClampNeg) = some (-1) := by unfold x8_shift_io; rw [f2, Option.bind_some, d2]; rfl
    have q2 : x9_shift (ml 0) (ma 33) (ma 34) (ml 1) (xs (i + 1).toNatClampNeg) (xs (i + 2).toNatClampNeg) (xs (i + 3).toNatClampNeg) (xs (i + 4).toNatClampNeg) (xs (i + 5).toNatClampNeg) = some (-1, ml 0, ml 1) := by unfold x9_shift; rw [f1, Option.bind_some]; rw [bif_t, d1]; rfl
    refine bd q1 ?_
    refine bg h1 ?_
    refine bg h2 ?_
    refine bg h3 ?_
    refine bg h4 ?_
    refine bg h5 ?_
    refine bd q2 ?_
    refine igp rfl ?_
    exact hn _ _ _ _ _ _ _ _ ⟨P, R, n, nb, hG, hF, hS, hC, hT, hW, hRl, hRd.up, hB, hH⟩
  refine ign x1_4 ?_
  by_cases x1_5 : xs (i + 1).toNatClampNeg = 5
  · refine igp x1_5 ?_
    by_cases x3_0 : xs (i + 3).toNatClampNeg = 0
    · refine igp x3_0 ?_
      have y1 : xs (i + 1).toNatClampNeg = I 5 := x1_5
      have y3 : xs (i + 3).toNatClampNeg = I 0 := x3_0
      obtain ⟨r, c1, el1, mo1, q1, q2, hsh, hfr⟩ := m_shift (mo := ml 1) (by decide) (by decide) b1 g5 g0 (xs (i + 2).toNatClampNeg) (xs (i + 4).toNatClampNeg) (xs (i + 5).toNatClampNeg)
      refine bd (by rw [shift_ii_eq, y1, y3]; exact q1) ?_
      refine bg h1 ?_
      refine bg h2 ?_
      refine bg h3 ?_
      refine bg h4 ?_
      refine bg h5 ?_
      refine bd (by rw [y1, y3]; exact q2) ?_
      refine igp rfl ?_
      exact hn _ _ _ _ _ _ _ _ ⟨P, R, n, nb, hG, hF, hS, hC, hT, hW, hRl, hRd.up, hB, ⟨hsh, g1.frame rfl rfl (hfr 1 (by decide)) (Nat.le_refl _), g2.frame rfl rfl (hfr 2 (by decide)) (Nat.le_refl _), g3.frame rfl rfl (hfr 3 (by decide)) (Nat.le_refl _), g4.frame rfl rfl (hfr 4 (by decide)) (Nat.le_refl _), g5.frame rfl rfl (hfr 5 (by decide)) (Nat.le_refl _)⟩⟩
    refine ign x3_0 ?_
    by_cases x3_1 : xs (i + 3).toNatClampNeg = 1
    · refine igp x3_1 ?_
      have y1 : xs (i + 1).toNatClampNeg = I 5 := x1_5
      have y3 : xs (i + 3).toNatClampNeg = I 1 := x3_1
      obtain ⟨r, c1, el1, mo1, q1, q2, hsh, hfr⟩ := m_shift (mo := ml 1) (by decide) (by decide) b1 g5 g1 (xs (i + 2).toNatClampNeg) (xs (i + 4).toNatClampNeg) (xs (i + 5).toNatClampNeg)
      refine bd (by rw [shift_ii_eq, y1, y3]; exact q1) ?_
      refine bg h1 ?_
      refine bg h2 ?_
      refine bg h3 ?_
      refine bg h4 ?_
      refine bg h5 ?_
      refine bd (by rw [y1, y3]; exact q2) ?_
      refine igp rfl ?_
      exact hn _ _ _ _ _ _ _ _ ⟨P, R, n, nb, hG, hF, hS, hC, hT, hW, hRl, hRd.up, hB, ⟨g0.frame rfl rfl (hfr 0 (by decide)) (Nat.le_refl _), hsh, g2.frame rfl rfl (hfr 2 (by decide)) (Nat.le_refl _), g3.frame rfl rfl (hfr 3 (by decide)) (Nat.le_refl _), g4.frame rfl rfl (hfr 4 (by decide)) (Nat.le_refl _), g5.frame rfl rfl (hfr 5 (by decide)) (Nat.le_refl _)⟩⟩
    refine ign x3_1 ?_
    by_cases x3_2 : xs (i + 3).toNatClampNeg = 2
    · refine igp x3_2 ?_
      have y1 : xs (i + 1).toNatClampNeg = I 5 := x1_5
      have y3 : xs (i + 3).toNatClampNeg = I 2 := x3_2
      obtain ⟨r, c1, el1, mo1, q1, q2, hsh, hfr⟩ := m_shift (mo := ml 1) (by decide) (by decide) b1 g5 g2 (xs (i + 2).toNatClampNeg) (xs (i + 4).toNatClampNeg) (xs (i + 5).toNatClampNeg)
      refine bd (by rw [shift_ii_eq, y1, y3]; exact q1) ?_
      refine bg h1 ?_
      refine bg h2 ?_
      refine bg h3 ?_
      refine bg h4 ?_
      refine bg h5 ?_
      refine bd (by rw [y1, y3]; exact q2) ?_
      refine igp rfl ?_
      exact hn _ _ _ _ _ _ _ _ ⟨P, R, n, nb, hG, hF, hS, hC, hT, hW, hRl, hRd.up, hB, ⟨g0.frame rfl rfl (hfr 0 (by decide)) (Nat.le_refl _), g1.frame rfl rfl (hfr 1 (by decide)) (Nat.le_refl _), hsh, g3.frame rfl rfl (hfr 3 (by decide)) (Nat.le_refl _), g4.frame rfl rfl (hfr 4 (by decide)) (Nat.le_refl _), g5.frame rfl rfl (hfr 5 (by decide)) (Nat.le_refl _)⟩⟩
    refine ign x3_2 ?_
    by_cases x3_3 : xs (i + 3).toNatClampNeg = 3
    · refine igp x3_3 ?_
      have y1 : xs (i + 1).toNatClampNeg = I 5 := x1_5
      have y3 : xs (i + 3).toNatClampNeg = I 3 := x3_3
      obtain ⟨r, c1, el1, mo1, q1, q2, hsh, hfr⟩ := m_shift (mo := ml 1) (by decide) (by decide) b1 g5 g3 (xs (i + 2).toNatClampNeg) (xs (i + 4).toNatClampNeg) (xs (i + 5).toNatClampNeg)
      refine bd (by rw [shift_ii_eq, y1, y3]; exact q1) ?_
      refine bg h1 ?_
      refine bg h2 ?_
      refine bg h3 ?_
      refine bg h4 ?_
      refine bg h5 ?_
      refine bd (by rw [y1, y3]; exact q2) ?_
      refine igp rfl ?_
      exact hn _ _ _ _ _ _ _ _ ⟨P, R, n, nb, hG, hF, hS, hC, hT, hW, hRl, hRd.up, hB, ⟨g0.frame rfl rfl (hfr 0 (by decide)) (Nat.le_refl _), g1.frame rfl rfl (hfr 1 (by decide)) (Nat.le_refl _), g2.frame rfl rfl (hfr 2 (by decide)) (Nat.le_refl _), hsh, g4.frame rfl rfl (hfr 4 (by decide)) (Nat.le_refl _), g5.frame rfl rfl (hfr 5 (by decide)) (Nat.le_refl _)⟩⟩
    refine ign x3_3 ?_
    by_cases x3_4 : xs (i + 3).toNatClampNeg = 4
    · refine igp x3_4 ?_
      have y1 : xs (i + 1).toNatClampNeg = I 5 := x1_5
      have y3 : xs (i + 3).toNatClampNeg = I 4 := x3_4
      obtain ⟨r, c1, el1, mo1, q1, q2, hsh, hfr⟩ := m_shift (mo := ml 1) (by decide) (by decide) b1 g5 g4 (xs (i + 2).toNatClampNeg) (xs (i + 4).toNatClampNeg) (xs (i + 5).toNatClampNeg)
      refine bd (by rw [shift_ii_eq, y1, y3]; exact q1) ?_
      refine bg h1 ?_
      refine bg h2 ?_
      refine bg h3 ?_
      refine bg h4 ?_
      refine bg h5 ?_
      refine bd (by rw [y1, y3]; exact q2) ?_
      refine igp rfl ?_
      exact hn _ _ _ _ _ _ _ _ ⟨P, R, n, nb, hG, hF, hS, hC, hT, hW, hRl, hRd.up, hB, ⟨g0.frame rfl rfl (hfr 0 (by decide)) (Nat.le_refl _), g1.frame rfl rfl (hfr 1 (by decide)) (Nat.le_refl _), g2.frame rfl rfl (hfr 2 (by decide)) (Nat.le_refl _), g3.frame rfl rfl (hfr 3 (by decide)) (Nat.le_refl _), hsh, g5.frame rfl rfl (hfr 5 (by decide)) (Nat.le_refl _)⟩⟩
    refine ign x3_4 ?_
    by_cases x3_5 : xs (i + 3).toNatClampNeg = 5
    · refine igp x3_5 ?_
      have y1 : xs (i + 1).toNatClampNeg = I 5 := x1_5
      have y3 : xs (i + 3).toNatClampNeg = I 5 := x3_5
      obtain ⟨r, c1, el1, mo1, q1, q2, hsh, hfr⟩ := m_shift (mo := ml 1) (by decide) (by decide) b1 g5 g5 (xs (i + 2).toNatClampNeg) (xs (i + 4).toNatClampNeg) (xs (i + 5).toNatClampNeg)
      refine bd (by rw [shift_is_eq, y1, y3]; exact q1) ?_
      refine bg h1 ?_
      refine bg h2 ?_
      refine bg h3 ?_
      refine bg h4 ?_
      refine bg h5 ?_
      refine bd (by rw [y1, y3]; exact q2) ?_
      refine igp rfl ?_
      exact hn _ _ _ _ _ _ _ _ ⟨P, R, n, nb, hG, hF, hS, hC, hT, hW, hRl, hRd.up, hB, ⟨g0.frame rfl rfl (hfr 0 (by decide)) (Nat.le_refl _), g1.frame rfl rfl (hfr 1 (by decide)) (Nat.le_refl _), g2.frame rfl rfl (hfr 2 (by decide)) (Nat.le_refl _), g3.frame rfl rfl (hfr 3 (by decide)) (Nat.le_refl _), g4.frame rfl rfl (hfr 4 (by decide)) (Nat.le_refl _), hsh⟩⟩
    refine ign x3_5 ?_
    have y1 : xs (i + 1).toNatClampNeg = I 5 := x1_5
    obtain ⟨f1, f2, _, _⟩ := shI (s := 5) (by decide)
    rw [← y1] at f1 f2
    obtain ⟨d1, d2⟩ := shO x3_0 x3_1 x3_2 x3_3 x3_4 x3_5
    have q1 : x8_shift_io (xs (i + 1).toNatClampNeg) (xs (i + 2).toNatClampNeg) (xs (i + 3).toNatClampNeg) (xs (i + 4).toNatClampNeg) (xs (i + 5).toNatClampNeg) = some (-1) := by unfold x8_shift_io; rw [f2, Option.bind_some, d2]; rfl
    have q2 : x9_shift (ml 0) (ma 33) (ma 34) (ml 1) (xs (i + 1).toNatClampNeg) (xs (i + 2).toNatClampNeg) (xs (i + 3).toNatClampNeg) (xs (i + 4).toNatClampNeg) (xs (i + 5).toNatClampNeg) = some (-1, ml 0, ml 1) := by unfold x9_shift; rw [f1, Option.bind_some]; rw [bif_t, d1]; rfl
    refine bd q1 ?_
    refine bg h1 ?_
    refine bg h2 ?_
    refine bg h3 ?_
    refine bg h4 ?_
    refine bg h5 ?_
    refine bd q2 ?_
    refine igp rfl ?_
    exact hn _ _ _ _ _ _ _ _ ⟨P, R, n, nb, hG, hF, hS, hC, hT, hW, hRl, hRd.up, hB, hH⟩
  refine ign x1_5 ?_
  by_cases x3_0 : xs (i + 3).toNatClampNeg = 0
  · refine igp x3_0 ?_
    obtain ⟨f1, f2⟩ := shO x1_0 x1_1 x1_2 x1_3 x1_4 x1_5
    have y3 : xs (i + 3).toNatClampNeg = I 0 := x3_0
    obtain ⟨d1, d2, _, _⟩ := shI (s := 0) (by decide)
    rw [← y3] at d1 d2
    have q1 : x8_shift_oi (xs (i + 1).toNatClampNeg) (xs (i + 2).toNatClampNeg) (xs (i + 3).toNatClampNeg) (xs (i + 4).toNatClampNeg) (xs (i + 5).toNatClampNeg) = some (-1) := by unfold x8_shift_oi; rw [f2, Option.bind_some, d2]; rfl
    have q2 : x9_shift (ml 0) (ma 33) (ma 34) (ml 1) (xs (i + 1).toNatClampNeg) (xs (i + 2).toNatClampNeg) (xs (i + 3).toNatClampNeg) (xs (i + 4).toNatClampNeg) (xs (i + 5).toNatClampNeg) = some (-1, ml 0, ml 1) := by unfold x9_shift; rw [f1, Option.bind_some]; rfl
    refine bd q1 ?_
    refine bg h1 ?_
    refine bg h2 ?_
    refine bg h3 ?_
    refine bg h4 ?_
    refine bg h5 ?_
    refine bd q2 ?_
    refine igp rfl ?_
    exact hn _ _ _ _ _ _ _ _ ⟨P, R, n, nb, hG, hF, hS, hC, hT, hW, hRl, hRd.up, hB, hH⟩
  refine ign x3_0 ?_
  by_cases x3_1 : xs (i + 3).toNatClampNeg = 1
  · refine igp x3_1 ?_
    obtain ⟨f1, f2⟩ := shO x1_0 x1_1 x1_2 x1_3 x1_4 x1_5
    have y3 : xs (i + 3).toNatClampNeg = I 1 := x3_1
    obtain ⟨d1, d2, _, _⟩ := shI (s := 1) (by decide)
    rw [← y3] at d1 d2
    have q1 : x8_shift_oi (xs (i + 1).toNatClampNeg) (xs (i + 2).toNatClampNeg) (xs (i + 3).toNatClampNeg) (xs (i + 4).toNatClampNeg) (xs (i + 5).toNatClampNeg) = some (-1) := by unfold x8_shift_oi; rw [f2, Option.bind_some, d2]; rfl
    have q2 : x9_shift (ml 0) (ma 33) (ma 34) (ml 1) (xs (i + 1).toNatClampNeg) (xs (i + 2).toNatClampNeg) (xs (i + 3).toNatClampNeg) (xs (i + 4).toNatClampNeg) (xs (i + 5).toNatClampNeg) = some (-1, ml 0, ml 1) := by unfold x9_shift; rw [f1, Option.bind_some]; rfl
    refine bd q1 ?_
    refine bg h1 ?_
    refine bg h2 ?_
    refine bg h3 ?_
    refine bg h4 ?_
    refine bg h5 ?_
    refine bd q2 ?_
    refine igp rfl ?_
    exact hn _ _ _ _ _ _ _ _ ⟨P, R, n, nb, hG, hF, hS, hC, hT, hW, hRl, hRd.up, hB, hH⟩
  refine ign x3_1 ?_
  by_cases x3_2 : xs (i + 3).toNatClampNeg = 2
  · refine igp x3_2 ?_
    obtain ⟨f1, f2⟩ := shO x1_0 x1_1 x1_2 x1_3 x1_4 x1_5
    have y3 : xs (i + 3).toNatClampNeg = I 2 := x3_2
    obtain ⟨d1, d2, _, _⟩ := shI (s := 2) (by decide)
    rw [← y3] at d1 d2
    have q1 : x8_shift_oi (xs (i + 1).toNatClampNeg) (xs (i + 2).toNatClampNeg) (xs (i + 3).toNatClampNeg) (xs (i + 4).toNatClampNeg) (xs (i + 5).toNatClampNeg) = some (-1) := by unfold x8_shift_oi; rw [f2, Option.bind_some, d2]; rfl
    have q2 : x9_shift (ml 0) (ma 33) (ma 34) (ml 1) (xs (i + 1).toNatClampNeg) (xs (i + 2).toNatClampNeg) (xs (i + 3).toNatClampNeg) (xs (i + 4).toNatClampNeg) (xs (i + 5).toNatClampNeg) = some (-1, ml 0, ml 1) := by unfold x9_shift; rw [f1, Option.bind_some]; rfl
    refine bd q1 ?_
    refine bg h1 ?_
    refine bg h2 ?_
    refine bg h3 ?_
    refine bg h4 ?_
    refine bg h5 ?_
    refine bd q2 ?_
    refine igp rfl ?_
    exact hn _ _ _ _ _ _ _ _ ⟨P, R, n, nb, hG, hF, hS, hC, hT, hW, hRl, hRd.up, hB, hH⟩
  refine ign x3_2 ?_
  by_cases x3_3 : xs (i + 3).toNatClampNeg = 3
  · refine igp x3_3 ?_
    obtain ⟨f1, f2⟩ := shO x1_0 x1_1 x1_2 x1_3 x1_4 x1_5
    have y3 : xs (i + 3).toNatClampNeg = I 3 := x3_3
    obtain ⟨d1, d2, _, _⟩ := shI (s := 3) (by decide)
    rw [← y3] at d1 d2
    have q1 : x8_shift_oi (xs (i + 1).toNatClampNeg) (xs (i + 2).toNatClampNeg) (xs (i + 3).toNatClampNeg) (xs (i + 4).toNatClampNeg) (xs (i + 5).toNatClampNeg) = some (-1) := by unfold x8_shift_oi; rw [f2, Option.bind_some, d2]; rfl
    have q2 : x9_shift (ml 0) (ma 33) (ma 34) (ml 1) (xs (i + 1).toNatClampNeg) (xs (i + 2).toNatClampNeg) (xs (i + 3).toNatClampNeg) (xs (i + 4).toNatClampNeg) (xs (i + 5).toNatClampNeg) = some (-1, ml 0, ml 1) := by unfold x9_shift; rw [f1, Option.bind_some]; rfl
    refine bd q1 ?_
    refine bg h1 ?_
    refine bg h2 ?_
    refine bg h3 ?_
    refine bg h4 ?_
    refine bg h5 ?_
    refine bd q2 ?_
    refine igp rfl ?_
    exact hn _ _ _ _ _ _ _ _ ⟨P, R, n, nb, hG, hF, hS, hC, hT, hW, hRl, hRd.up, hB, hH⟩
  refine ign x3_3 ?_
  by_cases x3_4 : xs (i + 3).toNatClampNeg = 4
  · refine igp x3_4 ?_
    obtain ⟨f1, f2⟩ := shO x1_0 x1_1 x1_2 x1_3 x1_4 x1_5
    have y3 : xs (i + 3).toNatClampNeg = I 4 := x3_4
    obtain ⟨d1, d2, _, _⟩ := shI (s := 4) (by decide)
    rw [← y3] at d1 d2
    have q1 : x8_shift_oi (xs (i + 1).toNatClampNeg) (xs (i + 2).toNatClampNeg) (xs (i + 3).toNatClampNeg) (xs (i + 4).toNatClampNeg) (xs (i + 5).toNatClampNeg) = some (-1) := by unfold x8_shift_oi; rw [f2, Option.bind_some, d2]; rfl
    have q2 : x9_shift (ml 0) (ma 33) (ma 34) (ml 1) (xs (i + 1).toNatClampNeg) (xs (i + 2).toNatClampNeg) (xs (i + 3).toNatClampNeg) (xs (i + 4).toNatClampNeg) (xs (i + 5).toNatClampNeg) = some (-1, ml 0, ml 1) := by unfold x9_shift; rw [f1, Option.bind_some]; rfl
    refine bd q1 ?_
    refine bg h1 ?_
    refine bg h2 ?_
    refine bg h3 ?_
    refine bg h4 ?_
    refine bg h5 ?_
    refine bd q2 ?_
    refine igp rfl ?_
    exact hn _ _ _ _ _ _ _ _ ⟨P, R, n, nb, hG, hF, hS, hC, hT, hW, hRl, hRd.up, hB, hH⟩
  refine ign x3_4 ?_
  by_cases x3_5 : xs (i + 3).toNatClampNeg = 5
  · refine igp x3_5 ?_
    obtain ⟨f1, f2⟩ := shO x1_0 x1_1 x1_2 x1_3 x1_4 x1_5
    have y3 : xs (i + 3).toNatClampNeg = I 5 := x3_5
    obtain ⟨d1, d2, _, _⟩ := shI (s := 5) (by decide)
    rw [← y3] at d1 d2
    have q1 : x8_shift_oi (xs (i + 1).toNatClampNeg) (xs (i + 2).toNatClampNeg) (xs (i + 3).toNatClampNeg) (xs (i + 4).toNatClampNeg) (xs (i + 5).toNatClampNeg) = some (-1) := by unfold x8_shift_oi; rw [f2, Option.bind_some, d2]; rfl
    have q2 : x9_shift (ml 0) (ma 33) (ma 34) (ml 1) (xs (i + 1).toNatClampNeg) (xs (i + 2).toNatClampNeg) (xs (i + 3).toNatClampNeg) (xs (i + 4).toNatClampNeg) (xs (i + 5).toNatClampNeg) = some (-1, ml 0, ml 1) := by unfold x9_shift; rw [f1, Option.bind_some]; rfl
    refine bd q1 ?_
    refine bg h1 ?_
    refine bg h2 ?_
    refine bg h3 ?_
    refine bg h4 ?_
    refine bg h5 ?_
    refine bd q2 ?_
    refine igp rfl ?_
    exact hn _ _ _ _ _ _ _ _ ⟨P, R, n, nb, hG, hF, hS, hC, hT, hW, hRl, hRd.up, hB, hH⟩
  refine ign x3_5 ?_
  obtain ⟨f1, f2⟩ := shO x1_0 x1_1 x1_2 x1_3 x1_4 x1_5
  obtain ⟨d1, d2⟩ := shO x3_0 x3_1 x3_2 x3_3 x3_4 x3_5
  have q1 : x8_shift_oo (xs (i + 1).toNatClampNeg) (xs (i + 2).toNatClampNeg) (xs (i + 3).toNatClampNeg) (xs (i + 4).toNatClampNeg) (xs (i + 5).toNatClampNeg) = some (-1) := by unfold x8_shift_oo; rw [f2, Option.bind_some, d2]; rfl
  have q2 : x9_shift (ml 0) (ma 33) (ma 34) (ml 1) (xs (i + 1).toNatClampNeg) (xs (i + 2).toNatClampNeg) (xs (i + 3).toNatClampNeg) (xs (i + 4).toNatClampNeg) (xs (i + 5).toNatClampNeg) = some (-1, ml 0, ml 1) := by unfold x9_shift; rw [f1, Option.bind_some]; rfl
  refine bd q1 ?_
  refine bg h1 ?_
  refine bg h2 ?_
  refine bg h3 ?_
  refine bg h4 ?_
  refine bg h5 ?_
  refine bd q2 ?_
  refine igp rfl ?_
  exact hn _ _ _ _ _ _ _ _ ⟨P, R, n, nb, hG, hF, hS, hC, hT, hW, hRl, hRd.up, hB, hH⟩

/-! walks, two -/
section trip
variable {P R : Nat} {A : Nat → Nat → Int32} {st : Nat → Int32} {m2 m3 m4 m5 m6 m7 x1 x2 : Int32} {nul : Bool} {lsz : Int32} {lst : Nat → Int32} {by_ : Int32} {op val lF lM lT ls : Nat → Int32} {lw : Option Prog}
theorem m_walks (h : TC P R A st m2 m3 m4 m5 m6 m7 x1 x2 nul lsz lst by_ op val lF lM lT ls lw) {has : Bool} {rsz : Int32} {ruw : Bool} {rst : Nat → Int32} {rl : Option Prog} (hR : RC has rsz ruw rst op val lF lM lT ls rl) {ft mft : Nat → Int32} (hft : FootOk ft mft) {r : Nat} {br gr : Int32} {brs grs : Nat → Int32} (hb : Rd r br brs) (hg : Rd r gr grs) (hr : r + 20 < 100000) (pe0 we0 sg0 g0 se0 md0 rides bd b1 b2 b3 b4 rd f0 : Int32) (stk rstk fa rid tg bvs gvs aw fa2 pile rid2 st2 : Nat → Int32) (p1 p2 : Int32) :
    ∃ o1 o2, x8_walks x1 x2 has lsz rsz ruw st pe0 we0 sg0 g0 se0 md0 rides bd stk lst rstk rst br fa gr (I P) (I R) rid tg brs bvs grs gvs (A 6) (A 4) ft (A 2) (A 5) (A 1) (A 0) (A 3) p1 p2 = some o1 ∧ x9_walks (I P) (I R) m2 m4 m5 m6 m7 by_ has b1 b2 b3 b4 rd f0 aw fa2 (A 4) (A 5) (A 3) (A 2) lF lM lT ls mft op pile (A 1) rid2 (A 6) (A 0) st2 val p1 p2 = some o2 ∧ o1.1 = o2.1 ∧ Rd (r + 20) o1.2.2.2.2.2.2.2.2.2.2.2.1 o1.2.2.2.2.2.2.2.2.2.2.2.2.2.2.2.2.1 ∧ Rd (r + 20) o1.2.2.2.2.2.2.2.2.2.2.2.2.2.1 o1.2.2.2.2.2.2.2.2.2.2.2.2.2.2.2.2.2.2.1 := by
  have hl := h.1
  have hP := hl.1
  have hpe : In m4 1 2 := h.2.1.2.2.2.2.2.2.2.2
  have hb0 := hb.mono (s := r + 20) (by omega)
  have hg0 := hg.mono (s := r + 20) (by omega)
  obtain ⟨hb1, hbf⟩ := hb.forget (by omega)
  obtain ⟨hg1, _⟩ := hg.forget (by omega)
  unfold x8_walks x9_walks
  obtain ⟨b, e1, e2, h2⟩ := moment_is hP p1
  rw [e1, e2, Option.bind_some, Option.bind_some]
  cases b
  · exact ⟨_, _, rfl, rfl, rfl, hb0, hg0⟩
  · obtain ⟨p, t, hp, ht, ep, et⟩ := h2 rfl
    rw [bif_t, bif_t]
    rcases upto_is p2 1 (by omega) with ⟨u, hu⟩ | ⟨z, hz, e9, u, u1, u2⟩
    · have u' : x9_within p2 0 1 = some false := u
      rw [u']
      rcases hu with hu | ⟨hu, hu'⟩
      · rw [if_pos hu]; exact ⟨_, _, rfl, rfl, rfl, hb0, hg0⟩
      · rw [if_neg hu, if_neg (show ¬ p2 ≤ 1 from hu')]; exact ⟨_, _, rfl, rfl, rfl, hb0, hg0⟩
    · have u' : x9_within p2 0 1 = some true := u
      obtain ⟨tg', e7, h7⟩ := m_prep h has pe0 we0 sg0 g0 se0 md0 br gr tg
      obtain ⟨fa3', pile3', st2', aw', e8, hS, e10, h9⟩ := m_lays h hpe m6 m7 fa2 pile st2 aw
      rw [if_neg u1, if_pos (show p2 ≤ 1 from u2), u', e7, Option.bind_some, Option.bind_some, bif_t]
      unfold x9_asIs
      rw [Option.bind_some]
      dsimp only
      rw [e8, Option.bind_some, e10, Option.bind_some]
      dsimp only
      obtain ⟨o1, o2, f1, f2, f3, ⟨f4, f5⟩, f6, f7⟩ := walkLoop h hR hft h7 h9 hS hp ht ep et p2 P yN yN 0 none (-2) rides bd stk rstk fa rid brs bvs grs gvs rd f0 fa3' pile3' rid2 (by omega) (by unfold yN; omega) (by unfold yN; omega) (fun u hu => by cases hu) (hbf bvs _) (GC_of hg (by omega) gvs)
      rw [← ep] at f2
      refine ⟨o1, o2, f1, f2, f3, ?_, ?_⟩
      · rw [f4]; exact (hb1.of (by omega) f5).mono (by omega)
      · rw [f6]; exact (hg1.of (by omega) f7).mono (by omega)
theorem m_two (h : TC P R A st m2 m3 m4 m5 m6 m7 x1 x2 nul lsz lst by_ op val lF lM lT ls lw) {has : Bool} {rsz : Int32} {ruw : Bool} {rst : Nat → Int32} {rl : Option Prog} (hR : RC has rsz ruw rst op val lF lM lT ls rl) {r : Nat} {br gr : Int32} {brs grs : Nat → Int32} (hb : Rd r br brs) (hg : Rd r gr grs) (hr : r + 20 < 100000) (pe0 we0 sg0 g0 se0 md0 rides bd b1 b2 b3 b4 rd f0 : Int32) (stk rstk fa rid tg bvs gvs aw fa2 pile rid2 st2 : Nat → Int32) (p1 p2 : Int32) :
    ∃ o1 o2, x8_two x1 x2 has lsz rsz ruw st pe0 we0 sg0 g0 se0 md0 rides bd stk lst rstk rst br fa gr (I P) (I R) rid tg brs bvs grs gvs (A 6) (A 4) (A 2) (A 5) (A 1) (A 0) (A 3) p1 p2 = some o1 ∧ x9_two (I P) (I R) m2 m4 m5 m6 m7 by_ has b1 b2 b3 b4 rd f0 aw fa2 (A 4) (A 5) (A 3) (A 2) lF lM lT ls op pile (A 1) rid2 (A 6) (A 0) st2 val p1 p2 = some o2 ∧ o1.1 = o2.1 ∧ Rd (r + 20) o1.2.2.2.2.2.2.2.2.2.2.2.1 o1.2.2.2.2.2.2.2.2.2.2.2.2.2.2.2.2.1 ∧ Rd (r + 20) o1.2.2.2.2.2.2.2.2.2.2.2.2.2.1 o1.2.2.2.2.2.2.2.2.2.2.2.2.2.2.2.2.2.2.1 := by
  have hl := h.1
  have hP := hl.1
  have hb0 := hb.mono (s := r + 20) (by omega)
  have hg0 := hg.mono (s := r + 20) (by omega)
  obtain ⟨hb1, _⟩ := hb.forget (by omega)
  obtain ⟨hg1, _⟩ := hg.forget (by omega)
  obtain ⟨hb2, hbf⟩ := hb1.forget (by omega)
  obtain ⟨hg2, _⟩ := hg1.forget (by omega)
  have t5 : (5 : Int32).toNatClampNeg = 5 := by decide
  have s5 : st 5 = m7 := h.2.1.2.2.2.2.2.1
  unfold x8_two x9_two
  obtain ⟨b, e1, e2, h2⟩ := moment_is hP p1
  rw [e1, e2, Option.bind_some, Option.bind_some]
  cases b
  · exact ⟨_, _, rfl, rfl, rfl, hb0, hg0⟩
  · obtain ⟨p, t, hp, ht, ep, et⟩ := h2 rfl
    rw [bif_t, bif_t]
    rcases upto_is p2 1 (by omega) with ⟨u, hu⟩ | ⟨w, hw, rfl, u, u1, u2⟩
    · have u' : x9_within p2 0 1 = some false := u
      rw [u']
      rcases hu with hu | ⟨hu, hu'⟩
      · rw [if_pos hu]; exact ⟨_, _, rfl, rfl, rfl, hb0, hg0⟩
      · rw [if_neg hu, if_neg (show ¬ p2 ≤ 1 from hu')]; exact ⟨_, _, rfl, rfl, rfl, hb0, hg0⟩
    · have u' : x9_within (I w) 0 1 = some true := u
      obtain ⟨tg', e7, h7⟩ := m_prep h has pe0 we0 sg0 g0 se0 md0 br gr tg
      obtain ⟨_, _, _, aw', _, _, e10, h9⟩ := m_lays h h.2.1.2.2.2.2.2.2.2.2 m6 m7 fa2 pile st2 aw
      rw [if_neg u1, if_pos (show I w ≤ 1 from u2), u', e7, Option.bind_some, Option.bind_some, bif_t, e10, Option.bind_some]
      dsimp only
      have hw2 : w = 0 ∨ w = 1 := by omega
      rcases hw2 with rfl | rfl
      · have hpe : In 1 1 2 := ⟨1, by omega, by omega, rfl⟩
        obtain ⟨fa3, pile3, st3, _, e8, hS, _, _⟩ := m_lays h hpe m6 m7 fa2 pile st2 aw
        obtain ⟨z, n, bd', fa', rid', rs', vs', gs', gv', stk', rstk', n4, f04, fa5, pile5, rid5, g1, g2, c1, c2, hz⟩ := m_arr h hR hpe h7 h9 hS (hbf bvs _) (GC_of hg1 (by omega) gvs) (ms := 99) (p := p) (t := t) (by omega) (by omega) (by omega) rides bd rd f0 fa rid stk rstk fa3 pile3 rid2
        obtain ⟨fa6, pile6, st6, _, e8', hS', _, _⟩ := m_lays h hpe m6 (m7 + 1) fa5 pile5 st3 aw
        obtain ⟨y, n7, bd7, fa7, rid7, rs7, vs7, gs7, gv7, stk7, rstk7, n8, f08, fa8, pile8, rid8, g3, g4, c3, c4, hy⟩ := m_arr h hR hpe h7 h9 hS' c1 c2 (ms := 99) (p := p) (t := t) (by omega) (by omega) (by omega) n bd' n4 f04 fa' rid' stk' rstk' fa6 pile6 rid5
        rw [show I 99 = 99 from rfl] at g1 g2 g3 g4
        rw [if_pos (show I 0 = 0 from rfl), if_neg (show ¬ (I 0 = 1) by decide), x8_two_36, x7_goAs, x7_forget, x2_forget, x2_forget, Option.bind_some, Option.bind_some, Option.bind_some, Option.bind_some, x9_arrivesAs, x9_asIs, Option.bind_some]
        dsimp only
        rw [et, ep, g1, Option.bind_some]
        dsimp only
        rw [if_pos (show I 0 = 0 from rfl), show inB 5 6 = true by decide, bif_t, t5, s5, g3, Option.bind_some]
        dsimp only
        rw [e8, Option.bind_some]
        dsimp only
        rw [g2, Option.bind_some, Option.bind_some]
        dsimp only
        rw [x9_arrivesAs, x9_asIs, Option.bind_some]
        dsimp only
        rw [et, ep, e8', Option.bind_some]
        dsimp only
        rw [g4, Option.bind_some, Option.bind_some]
        clear g1 g2 g3 g4 e8 e8' e7 e10
        dsimp only
        have hzz := (hb2.of (by omega) c3.2).mono (s := r + 20) (by omega)
        have hyy := (hg2.of (by omega) c4.2).mono (s := r + 20) (by omega)
        have hz1 : ∀ u, z = some u → u < 100000 := fun u hu => (hz u hu).2
        have hy1 : ∀ u, y = some u → u < 100000 := fun u hu => (hy u hu).2
        cases z with
        | none =>
          have c : ¬ (never none < never y) := by
            cases y with
            | none => exact Int32.lt_irrefl
            | some v =>
              have := hy1 v rfl
              show ¬ (I 2147483647 < I v)
              rw [I_lt (by omega) (by omega)]; omega
          rw [if_neg c, orNot_is hz1, Option.bind_some, if_pos (show notR none < 0 by decide)]
          exact ⟨_, _, rfl, rfl, rfl, hzz, hyy⟩
        | some u =>
          have hu := hz1 u rfl
          have n2 : ¬ (notR (some u) < 0) := by rw [notR_neg _ hz1]; intro e; cases e
          rw [if_neg n2]
          cases y with
          | none =>
            rw [if_pos (show never (some u) < never none by show I u < I 2147483647; rw [I_lt (by omega) (by omega)]; omega), orNot_is hy1, Option.bind_some, if_neg (show ¬ ((0 : Int32) ≤ notR none) by decide)]
            exact ⟨_, _, rfl, rfl, rfl, hzz, hyy⟩
          | some v =>
            have hv := hy1 v rfl
            rw [if_pos (show (0 : Int32) ≤ notR (some v) by show I 0 ≤ I v; rw [I_le (by omega) (by omega)]; omega)]
            by_cases c : u < v
            · rw [if_pos (show never (some u) < never (some v) by show I u < I v; rw [I_lt (by omega) (by omega)]; exact c), orNot_is hy1, Option.bind_some, if_pos (show notR (some u) ≤ notR (some v) by show I u ≤ I v; rw [I_le (by omega) (by omega)]; omega)]
              exact ⟨_, _, rfl, rfl, rfl, hzz, hyy⟩
            · rw [if_neg (show ¬ (never (some u) < never (some v)) by show ¬ (I u < I v); rw [I_lt (by omega) (by omega)]; exact c), orNot_is hz1, Option.bind_some]
              by_cases c2 : u = v
              · rw [if_pos (show notR (some u) ≤ notR (some v) by rw [c2]; exact Int32.le_refl _)]
                exact ⟨_, _, rfl, rfl, (by rw [c2]), hzz, hyy⟩
              · rw [if_neg (show ¬ (notR (some u) ≤ notR (some v)) by show ¬ (I u ≤ I v); rw [I_le (by omega) (by omega)]; omega)]
                exact ⟨_, _, rfl, rfl, rfl, hzz, hyy⟩
      · have hpe : In 2 1 2 := ⟨2, by omega, by omega, rfl⟩
        obtain ⟨fa3, pile3, st3, _, e8, hS, _, _⟩ := m_lays h hpe m6 m7 fa2 pile st2 aw
        obtain ⟨z, n, bd', fa', rid', rs', vs', gs', gv', stk', rstk', n4, f04, fa5, pile5, rid5, g1, g2, c1, c2, hz⟩ := m_arr h hR hpe h7 h9 hS (hbf bvs _) (GC_of hg1 (by omega) gvs) (ms := 99) (p := p) (t := t) (by omega) (by omega) (by omega) rides bd rd f0 fa rid stk rstk fa3 pile3 rid2
        rw [show I 99 = 99 from rfl] at g1 g2
        have hz1 : ∀ u, z = some u → u < 100000 := fun u hu => (hz u hu).2
        rw [if_neg (show ¬ (I 1 = 0) by decide), if_pos (show I 1 = 1 from rfl), x8_two_36, x7_goAs, x7_forget, x2_forget, x2_forget, Option.bind_some, Option.bind_some, Option.bind_some, Option.bind_some, x9_arrivesAs, x9_asIs, Option.bind_some]
        dsimp only
        rw [et, ep, g1, Option.bind_some]
        dsimp only
        rw [if_neg (show ¬ (I 1 = 0) by decide), orNot_is hz1, Option.bind_some, e8, Option.bind_some]
        dsimp only
        rw [g2, Option.bind_some, Option.bind_some]
        exact ⟨_, _, rfl, rfl, rfl, (hb2.of (by omega) c1.2).mono (by omega), (hg2.of (by omega) c2.2).mono (by omega)⟩
end trip

/-! book as a call; a road as a call -/
theorem holdsAll {P N : Nat} (hP : P ≤ 8) (hN : N ≤ 60) : x5_holdsCells (I 2) (I N) 0 (I P) = some (decide (P ≤ N)) := by
  unfold x5_holdsCells
  rw [show x5_holdsRow (I 2) = some true by decide, Option.bind_some, bif_t, if_neg (show ¬ ((0 : Int32) < 0) by decide), if_neg (show ¬ (I P < 0) by show ¬ (I P < I 0); rw [I_lt (by omega) (by omega)]; omega)]
  by_cases w : P ≤ N
  · rw [if_neg (by rw [I_lt (by omega) (by omega)]; omega), I_sub w, if_neg (show ¬ (I (N - P) < 0) by show ¬ (I (N - P) < I 0); rw [I_lt (by omega) (by omega)]; omega), decide_eq_true w]
  · rw [if_pos (by rw [I_lt (by omega) (by omega)]; omega), decide_eq_false w]
section trip
variable {P R : Nat} {A : Nat → Nat → Int32} {st : Nat → Int32} {m2 m3 m4 m5 m6 m7 x2 : Int32} {nul : Bool} {lsz : Int32} {lst : Nat → Int32} {by_ : Int32} {op val lF lM lT ls : Nat → Int32} {lw : Option Prog}
theorem m_book {n : Nat} (hn : n ≤ 4) (h : TC P R A st m2 m3 m4 m5 m6 m7 (I n) x2 nul lsz lst by_ op val lF lM lT ls lw) {sz0 sz1 sz2 sz3 : Int32} {uw0 uw1 uw2 uw3 : Bool} {tx0 tx1 tx2 tx3 : Nat → Int32} (hw0 : 0 < n → LawOk 0 sz0 uw0 tx0 op val lF lM lT ls) (hw1 : 1 < n → LawOk 1 sz1 uw1 tx1 op val lF lM lT ls) (hw2 : 2 < n → LawOk 2 sz2 uw2 tx2 op val lF lM lT ls) (hw3 : 3 < n → LawOk 3 sz3 uw3 tx3 op val lF lM lT ls) {s nbd : Nat} (hs : s < 6) (hnb : nbd ≤ 50) {sort body size : Int32} {cells : Nat → Int64} {held len : Nat → Int32} {el : Nat → Int64} (hsh : ShOk s sort body size cells held len el nbd) {r : Nat} {br gr : Int32} {brs grs : Nat → Int32} (hb : Rd r br brs) (hg : Rd r gr grs) (hr : r + 20 < 100000) (has : Bool) (pe0 we0 sg0 g0 se0 md0 fo b1 b2 b3 b4 : Int32) (sk0 sk1 sk2 sk3 fa stops tg bvs fa2 pile st2 : Nat → Int32) (p2 p3 : Int32) :
    ∃ o1 o2, x8_book_i (I n) x2 has sz0 sz1 sz2 sz3 sort size st pe0 we0 sg0 g0 se0 md0 sk0 tx0 sk1 tx1 sk2 tx2 sk3 tx3 cells br fa gr (I P) (I R) stops tg brs bvs (A 6) (A 4) (A 2) (A 5) (A 1) (A 0) (A 3) (I s) p2 p3 = some o1 ∧ x9_book (I P) (I R) m4 m5 m6 m7 (I n) by_ b1 b2 b3 b4 el fa2 (A 4) held (A 3) (A 2) len lF lM lT ls op pile (A 1) (A 6) (A 0) st2 val (I s) p2 p3 = some o2 ∧ o1.1 = o2.1 ∧ Rd (r + 20) o1.2.2.2.2.2.2.2.2.2.2.2.1 o1.2.2.2.2.2.2.2.2.2.2.2.2.2.2.2.2.1 ∧ Rd (r + 20) o1.2.2.2.2.2.2.2.2.2.2.2.2.2.1 grs := by
  have hl := h.1
  have hP := hl.1
  have hpe : In m4 1 2 := h.2.1.2.2.2.2.2.2.2.2
  have hb0 := hb.mono (s := r + 20) (by clear hsh hw0 hw1 hw2 hw3; omega)
  have hg0 := hg.mono (s := r + 20) (by clear hsh hw0 hw1 hw2 hw3; omega)
  obtain ⟨hb1, _⟩ := hb.forget (by clear hsh hw0 hw1 hw2 hw3; omega)
  obtain ⟨hg1, _⟩ := hg.forget (by clear hsh hw0 hw1 hw2 hw3; omega)
  obtain ⟨i1, i2, i3, i4⟩ := shI hs
  have mk : ∀ N t, N ≤ 60 → P ≤ N → (∀ k, k < N → cells k = el (60 * s + k)) → t < 1440 → BC P R A n m4 sz0 sz1 sz2 sz3 uw0 uw1 uw2 uw3 tx0 tx1 tx2 tx3 op val lF lM lT ls s N cells el t := fun N t a b c d => ⟨hl, hpe, hn, ⟨hw0, hw1, hw2, hw3⟩, hs, a, b, c, d⟩
  clear hw0 hw1 hw2 hw3
  unfold x8_book_i x9_book
  rw [i1, i2, i3, i4, Option.bind_some, Option.bind_some, bif_t]
  obtain ⟨b, e3, e4, h4⟩ := min_is p2
  rw [e3, e4, Option.bind_some, Option.bind_some]
  cases b
  · exact ⟨_, _, rfl, rfl, rfl, hb0, hg0⟩
  · obtain ⟨t, ht, rfl⟩ := h4 rfl
    rw [bif_t, bif_t]
    rcases upto_is p3 1 (by decide) with ⟨u, hu⟩ | ⟨z, hz, e9, u, u1, u2⟩
    · have u' : x9_within p3 0 1 = some false := u
      rw [u']
      rcases hu with hu | ⟨hu, hu'⟩
      · rw [if_pos hu]; exact ⟨_, _, rfl, rfl, rfl, hb0, hg0⟩
      · rw [if_neg hu, if_neg (show ¬ p3 ≤ 1 from hu')]; exact ⟨_, _, rfl, rfl, rfl, hb0, hg0⟩
    · have u' : x9_within p3 0 1 = some true := u
      rw [if_neg u1, if_pos (show p3 ≤ 1 from u2), u', Option.bind_some, bif_t]
      simp only [bif_t]
      rcases hsh with ⟨rfl, a2⟩ | ⟨rfl, b, a2, rfl, a4⟩ | ⟨q, hq, rfl, a3, N, hN, rfl, a6, a7⟩
      · rw [a2, if_pos rfl, show x5_holdsNothing (-1) = some true by decide]
        exact ⟨_, _, rfl, rfl, rfl, hb0, hg0⟩
      · obtain ⟨b1, b2, _⟩ := negb (b := b) (by omega)
        have b3 : I b ≠ -4 := by
          intro h
          rw [h] at b2
          exact absurd b2 (by decide)
        rw [a4, if_neg b1, if_neg b3, show x5_holdsNothing 5 = some false by decide, show x5_holdsRowOf 5 2 = some false by decide]
        exact ⟨_, _, rfl, rfl, rfl, hb0, hg0⟩
      · obtain ⟨n1, _⟩ := negq hq
        rw [a3, if_neg n1, (rowFacts hq).1, Option.bind_some, bif_f]
        by_cases w1 : q = 2
        · subst w1
          rw [if_pos (by decide), show x5_holdsRowOf (I 2) 2 = some true by decide, Option.bind_some, bif_t, holdsAll hP hN, Option.bind_some, a6]
          by_cases w : P ≤ N
          · rw [decide_eq_true w, bif_t, if_pos (show I P ≤ I N by rw [I_le (by omega) (by omega)]; exact w)]
            obtain ⟨tg', e7, h7⟩ := m_prep h has pe0 we0 sg0 g0 se0 md0 br gr tg
            rw [e7, Option.bind_some]
            unfold x9_asIs
            rw [Option.bind_some]
            dsimp only
            exact bookU0 (mk N t hN w a7 ht) x2 has st m2 99 by_ p3 tg' held len (B := r + 20) (by omega) none (fun u hu => by cases hu) (r + 1) (by omega) yN (by unfold yN; omega) _ _ _ _ _ _ _ _ _ _ _ _ _ _ _ _ _ _ hb1 hg1
          · rw [decide_eq_false w, bif_f, if_neg (show ¬ (I P ≤ I N) by rw [I_le (by omega) (by omega)]; exact w)]
            exact ⟨_, _, rfl, rfl, rfl, hb0, hg0⟩
        · have : q = 0 ∨ q = 1 ∨ q = 3 ∨ q = 4 := by omega
          have f1 : x5_holdsRowOf (I q) 2 = some false ∧ (-2 - I q : Int32) ≠ -4 := by
            rcases this with h | h | h | h <;> subst h <;> decide
          rw [f1.1, if_neg f1.2]
          exact ⟨_, _, rfl, rfl, rfl, hb0, hg0⟩
end trip
theorem m_roadC {P R : Nat} (hP : P ≤ 8) (hR : R ≤ 16) {danger flow frm len to : Nat → Int32} (hro : RoadsOk P R danger flow frm len to) (p1 p2 p3 : Int32) :
    ∃ r R' da fl fr le t, x8_road (I P) (I R) danger flow frm len to p1 p2 p3 = some (r, I R', da, fl, fr, le, t) ∧ x9_road (I P) (I R) flow len to frm danger p1 p2 p3 = some (r, I R', fl, le, t, fr, da) ∧ R ≤ R' ∧ R' ≤ 16 ∧ RoadsOk P R' da fl fr le t := by
  unfold x8_road x9_road
  by_cases q : p3 < 0
  · rw [if_pos q, if_neg (show ¬ (0 : Int32) ≤ p3 by rw [Int32.not_le]; exact q)]
    exact ⟨_, _, _, _, _, _, _, rfl, rfl, Nat.le_refl _, hR, hro⟩
  · rw [if_neg q, if_pos (show (0 : Int32) ≤ p3 by rw [← Int32.not_lt]; exact q)]
    obtain ⟨a, R', da, fl, fr, le, t, b1, b2, b3, b4, b5⟩ := m_addRoad hP hR hro p1 p2 (p3 / 100) (p3 - p3 / 100 * 100)
    rw [b1, Option.bind_some]
    rcases b5 with ⟨q0, rfl, rfl, rfl, rfl, rfl, rfl, rfl⟩ | ⟨q0, rfl, rfl, rfl, rfl, rfl, rfl, rfl, rfl⟩ | ⟨q0, q1, rfl, rfl, q2⟩
    · rw [q0, Option.bind_some, bif_f]
      exact ⟨_, _, _, _, _, _, _, rfl, rfl, Nat.le_refl _, b3, b4⟩
    · rw [q0, Option.bind_some, bif_t, if_pos (by decide)]
      exact ⟨_, _, _, _, _, _, _, rfl, rfl, Nat.le_refl _, b3, b4⟩
    · rw [q0, Option.bind_some, bif_t, if_neg (show ¬ (I R = 16) by show ¬ (I R = I 16); rw [I_eq (by omega) (by omega)]; omega), q2, Option.bind_some]
      exact ⟨_, _, _, _, _, _, _, rfl, rfl, b2, b3, b4⟩
theorem m_count (a b c d e f g p : Int32) : ∃ r, x8_count d c f g e a b p = some r := by
  unfold x8_count
  repeat' split
  all_goals exact ⟨_, rfl⟩

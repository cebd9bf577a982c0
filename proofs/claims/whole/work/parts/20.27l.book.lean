/-! book: the laws one by one (laid by mkbook.py) -/
def nb : Option Nat → Int32
  | none => -1
  | some v => I v
def BC (P R : Nat) (A : Nat → Nat → Int32) (n : Nat) (m4 : Int32) (sz0 sz1 sz2 sz3 : Int32) (uw0 uw1 uw2 uw3 : Bool) (tx0 tx1 tx2 tx3 op val lF lM lT ls : Nat → Int32) (s N : Nat) (cells el : Nat → Int64) (t : Nat) : Prop :=
  LandOk P R A ∧ In m4 1 2 ∧ n ≤ 4 ∧ ((0 < n → LawOk 0 sz0 uw0 tx0 op val lF lM lT ls) ∧ (1 < n → LawOk 1 sz1 uw1 tx1 op val lF lM lT ls) ∧ (2 < n → LawOk 2 sz2 uw2 tx2 op val lF lM lT ls) ∧ (3 < n → LawOk 3 sz3 uw3 tx3 op val lF lM lT ls)) ∧ s < 6 ∧ N ≤ 60 ∧ P ≤ N ∧ (∀ k, k < N → cells k = el (60 * s + k)) ∧ t < 1440
theorem pickB {b : Option Nat} (hb : ∀ u, b = some u → u < 100000) {S : Nat} (hS : S < 100000) :
    (never b ≤ I S ∧ ¬ nb b < 0 ∧ ¬ I S < nb b) ∨ (¬ never b ≤ I S ∧ (nb b < 0 ∨ (¬ nb b < 0 ∧ I S < nb b))) := by
  cases b with
  | none => exact Or.inr ⟨(by rw [(never_le hb S hS).2]; rintro ⟨_, e, _⟩; cases e), Or.inl (by decide)⟩
  | some v =>
    have h3 := hb v rfl
    have h4 : ¬ nb (some v) < 0 := by show ¬ (I v < I 0); rw [I_lt (by omega) (by omega)]; omega
    have e1 : never (some v) ≤ I S ↔ v ≤ S := by show I v ≤ I S ↔ _; rw [I_le (by omega) (by omega)]
    have e2 : I S < nb (some v) ↔ S < v := by show I S < I v ↔ _; rw [I_lt (by omega) (by omega)]
    by_cases c : v ≤ S
    · exact Or.inl ⟨e1.mpr c, h4, fun e => by have := e2.mp e; omega⟩
    · exact Or.inr ⟨fun e => c (e1.mp e), Or.inr ⟨h4, e2.mpr (by omega)⟩⟩
section trip
variable {P R : Nat} {A : Nat → Nat → Int32} {n : Nat} {m4 m5 m6 m7 : Int32} {sz0 sz1 sz2 sz3 : Int32} {uw0 uw1 uw2 uw3 : Bool} {tx0 tx1 tx2 tx3 op val lF lM lT ls : Nat → Int32} {s N : Nat} {cells el : Nat → Int64} {t : Nat}

theorem bookU5 (hB : BC P R A n m4 sz0 sz1 sz2 sz3 uw0 uw1 uw2 uw3 tx0 tx1 tx2 tx3 op val lF lM lT ls s N cells el t) (x2 : Int32) (has : Bool) (st : Nat → Int32) (g0 md fo p3 : Int32) (tg held len : Nat → Int32) {B : Nat} (hBB : B < 100000) (b : Option Nat) (hb : ∀ u, b = some u → u < 100000) (hbn : b ≠ none) (S0 : Nat) (hS0 : S0 + 0 ≤ B) (n2 : Nat) (hn2 : 0 < n2) (br gr l5 bl : Int32) (brs grs bvs sk0 sk1 sk2 sk3 fa stops fa2 pile st2 : Nat → Int32) (lb rb : Bool) (h1 : Rd S0 br brs) (h2 : Rd S0 gr grs) :
    ∃ o1 o2, x8_book_i_87_u5 (I n) x2 has sz0 sz1 sz2 sz3 (I 2) (I N) st tx0 sk1 tx1 sk2 tx2 sk3 tx3 cells (I P) (I R) (A 6) (A 4) (A 2) (A 5) (A 1) (A 0) (A 3) (I t) p3 m4 m5 m6 g0 m7 md sk0 br fa gr stops tg brs bvs lb rb l5 (never b) = some o1 ∧ x9_book_85 (I P) (I R) m4 m5 m6 m7 (I n) fo m4 m7 m6 el (A 4) held (A 3) (A 2) len lF lM lT ls op (A 1) (A 6) (A 0) val (I s) (I t) p3 n2 bl fa2 pile st2 l5 (nb b) 4 = some o2 ∧ o1.1 = o2.1 ∧ Rd B o1.2.2.2.2.2.2.2.2.2.2.2.1 o1.2.2.2.2.2.2.2.2.2.2.2.2.2.2.2.2.1 ∧ Rd B o1.2.2.2.2.2.2.2.2.2.2.2.2.2.1 grs := by
  have hB2 := hB
  obtain ⟨hl, hpe, hn, hw, hs, hN, hPN, hel, ht⟩ := hB2
  clear hw
  have hP := hl.1
  obtain ⟨n2, rfl⟩ : ∃ k, n2 = k + 1 := ⟨n2 - 1, by omega⟩
  unfold x8_book_i_87_u5
  rw [x9_book_85]
  have g : I n ≤ 4 := by show I n ≤ I 4; rw [I_le (by omega) (by omega)]; omega
  rw [if_pos g, if_pos g, x9_book_248]
  by_cases w : p3 = 0
  · rw [if_pos w, if_pos w]; exact ⟨_, _, rfl, rfl, rfl, h1.mono (by omega), h2.mono (by omega)⟩
  · rw [if_neg w, if_neg w]
    cases b with
    | none => exact absurd rfl hbn
    | some v => exact ⟨_, _, rfl, rfl, rfl, h1.mono (by omega), h2.mono (by omega)⟩
theorem bookU4 (hB : BC P R A n m4 sz0 sz1 sz2 sz3 uw0 uw1 uw2 uw3 tx0 tx1 tx2 tx3 op val lF lM lT ls s N cells el t) (x2 : Int32) (has : Bool) (st : Nat → Int32) (g0 md fo p3 : Int32) (tg held len : Nat → Int32) {B : Nat} (hBB : B < 100000) (b : Option Nat) (hb : ∀ u, b = some u → u < 100000) (hbn : b ≠ none) (S0 : Nat) (hS0 : S0 + 1 ≤ B) (n2 : Nat) (hn2 : 1 < n2) (br gr l5 bl : Int32) (brs grs bvs sk0 sk1 sk2 sk3 fa stops fa2 pile st2 : Nat → Int32) (lb rb : Bool) (h1 : Rd S0 br brs) (h2 : Rd S0 gr grs) :
    ∃ o1 o2, x8_book_i_87_u4 (I n) x2 has sz0 sz1 sz2 sz3 (I 2) (I N) st tx0 sk1 tx1 sk2 tx2 sk3 tx3 cells (I P) (I R) (A 6) (A 4) (A 2) (A 5) (A 1) (A 0) (A 3) (I t) p3 m4 m5 m6 g0 m7 md sk0 br fa gr stops tg brs bvs lb rb l5 (never b) = some o1 ∧ x9_book_85 (I P) (I R) m4 m5 m6 m7 (I n) fo m4 m7 m6 el (A 4) held (A 3) (A 2) len lF lM lT ls op (A 1) (A 6) (A 0) val (I s) (I t) p3 n2 bl fa2 pile st2 l5 (nb b) 3 = some o2 ∧ o1.1 = o2.1 ∧ Rd B o1.2.2.2.2.2.2.2.2.2.2.2.1 o1.2.2.2.2.2.2.2.2.2.2.2.2.2.2.2.2.1 ∧ Rd B o1.2.2.2.2.2.2.2.2.2.2.2.2.2.1 grs := by
  have hB2 := hB
  obtain ⟨hl, hpe, hn, hw, hs, hN, hPN, hel, ht⟩ := hB2
  have hwi : 3 < n → LawOk 3 sz3 uw3 tx3 op val lF lM lT ls := hw.2.2.2
  clear hw
  have hwk : n ≤ 3 ∨ LawOk 3 sz3 uw3 tx3 op val lF lM lT ls := by
    by_cases q : 3 < n
    · exact Or.inr (hwi q)
    · exact Or.inl (Nat.le_of_not_lt q)
  clear hwi
  revert hwk
  have hP := hl.1
  obtain ⟨n2, rfl⟩ : ∃ k, n2 = k + 1 := ⟨n2 - 1, by omega⟩
  unfold x8_book_i_87_u4
  rw [x9_book_85]
  by_cases q : n ≤ 3
  · intro _
    have g : I n ≤ 3 := by show I n ≤ I 3; rw [I_le (by omega) (by omega)]; omega
    rw [if_pos g, if_pos g, x9_book_248]
    by_cases w : p3 = 0
    · rw [if_pos w, if_pos w]; exact ⟨_, _, rfl, rfl, rfl, h1.mono (by omega), h2.mono (by omega)⟩
    · rw [if_neg w, if_neg w]
      cases b with
      | none => exact absurd rfl hbn
      | some v => exact ⟨_, _, rfl, rfl, rfl, h1.mono (by omega), h2.mono (by omega)⟩
  · have g : ¬ (I n ≤ 3) := by show ¬ (I n ≤ I 3); rw [I_le (by omega) (by omega)]; omega
    have e0 : x8_lawText (I n) 3 = some false := by unfold x8_lawText; rw [if_neg (by decide), if_neg g, if_neg (by decide), show inB 3 4 = true by decide, bif_t]
    intro hwk
    obtain ⟨Q, hC, hM⟩ := hwk.resolve_left q
    clear hwk
    have hc : LwC false sz3 tx3 (some Q) := Or.inr ⟨rfl, Q, uw3, rfl, hC⟩
    have hm : LwM 3 op val lF lM lT ls (some Q) := Or.inr ⟨3, Q, sz3, uw3, tx3, by omega, rfl, rfl, hM, hC⟩
    obtain ⟨hb1, hbf⟩ := h1.forget (by omega)
    obtain ⟨hg1, _⟩ := h2.forget (by omega)
    obtain ⟨fa3, pile3, st3, e8, hS⟩ := r_layStops (seed := m7) (sg := m6) (we := m5) hl hpe hm fa2 pile st2
    rw [if_neg g, if_neg g, e0, x7_judgeBy, x7_forget, x2_forget, x2_forget, e8, Option.bind_some, Option.bind_some, Option.bind_some, Option.bind_some, Option.bind_some, Option.bind_some]
    dsimp only
    rw [x7_offFrom]
    obtain ⟨S', fa', stops', rs', vs', stk', z1, z2, z3, z4⟩ := offLoop hl hpe hc hS hs hN hPN hel ht (fun z0 z1 z2 z3 z4 z5 z6 => x9_book_85 (I P) (I R) m4 m5 m6 m7 (I n) fo m4 m7 m6 el (A 4) held (A 3) (A 2) len lF lM lT ls op (A 1) (A 6) (A 0) val (I s) (I t) p3 n2 z0 z1 z2 z3 z4 z5 z6) m4 m5 m6 m7 (I n) fo 3 m4 m7 m6 held fa3 len lF lM lT ls op pile3 val p3 l5 (nb b) 3 P yN yN 0 0 fa stops brs bvs sk3 (by omega) (by unfold yN; omega) (by unfold yN; omega) (by omega) (hbf bvs _)
    rw [show I 0 = 0 from rfl] at z3 z4
    have hb2 := hb1.of (by omega) z2.2
    rw [z3, Option.bind_some, z4]
    dsimp only
    rw [x9_book_219]
    rcases pickB hb (show S' < 100000 by omega) with ⟨q1, q2, q3⟩ | ⟨q1, q2⟩
    · rw [if_pos q1, if_neg q2, if_neg q3, x8_book_i_136_u4, x9_book_242, show (3 : Int32) + 1 = 4 by decide]
      exact bookU5 hB x2 has st g0 md fo p3 tg held len hBB b hb hbn (S0 + 1) (by omega) n2 (by omega) _ _ _ _ _ _ _ _ _ _ _ _ _ _ _ _ _ _ hb2 hg1
    · rw [if_neg q1]
      rcases q2 with q2 | ⟨q2, q3⟩
      · rw [if_pos q2, x8_book_i_136_u4, x9_book_234, x9_book_242, show (3 : Int32) + 1 = 4 by decide]
        exact bookU5 hB x2 has st g0 md fo p3 tg held len hBB (some S') (fun u hu => by injection hu with hu; omega) (fun e => by cases e) (S0 + 1) (by omega) n2 (by omega) _ _ _ _ _ _ _ _ _ _ _ _ _ _ _ _ _ _ hb2 hg1
      · rw [if_neg q2, if_pos q3, x8_book_i_136_u4, x9_book_234, x9_book_242, show (3 : Int32) + 1 = 4 by decide]
        exact bookU5 hB x2 has st g0 md fo p3 tg held len hBB (some S') (fun u hu => by injection hu with hu; omega) (fun e => by cases e) (S0 + 1) (by omega) n2 (by omega) _ _ _ _ _ _ _ _ _ _ _ _ _ _ _ _ _ _ hb2 hg1
theorem bookU3 (hB : BC P R A n m4 sz0 sz1 sz2 sz3 uw0 uw1 uw2 uw3 tx0 tx1 tx2 tx3 op val lF lM lT ls s N cells el t) (x2 : Int32) (has : Bool) (st : Nat → Int32) (g0 md fo p3 : Int32) (tg held len : Nat → Int32) {B : Nat} (hBB : B < 100000) (b : Option Nat) (hb : ∀ u, b = some u → u < 100000) (hbn : b ≠ none) (S0 : Nat) (hS0 : S0 + 2 ≤ B) (n2 : Nat) (hn2 : 2 < n2) (br gr l5 bl : Int32) (brs grs bvs sk0 sk1 sk2 sk3 fa stops fa2 pile st2 : Nat → Int32) (lb rb : Bool) (h1 : Rd S0 br brs) (h2 : Rd S0 gr grs) :
    ∃ o1 o2, x8_book_i_87_u3 (I n) x2 has sz0 sz1 sz2 sz3 (I 2) (I N) st tx0 sk1 tx1 sk2 tx2 sk3 tx3 cells (I P) (I R) (A 6) (A 4) (A 2) (A 5) (A 1) (A 0) (A 3) (I t) p3 m4 m5 m6 g0 m7 md sk0 br fa gr stops tg brs bvs lb rb l5 (never b) = some o1 ∧ x9_book_85 (I P) (I R) m4 m5 m6 m7 (I n) fo m4 m7 m6 el (A 4) held (A 3) (A 2) len lF lM lT ls op (A 1) (A 6) (A 0) val (I s) (I t) p3 n2 bl fa2 pile st2 l5 (nb b) 2 = some o2 ∧ o1.1 = o2.1 ∧ Rd B o1.2.2.2.2.2.2.2.2.2.2.2.1 o1.2.2.2.2.2.2.2.2.2.2.2.2.2.2.2.2.1 ∧ Rd B o1.2.2.2.2.2.2.2.2.2.2.2.2.2.1 grs := by
  have hB2 := hB
  obtain ⟨hl, hpe, hn, hw, hs, hN, hPN, hel, ht⟩ := hB2
  have hwi : 2 < n → LawOk 2 sz2 uw2 tx2 op val lF lM lT ls := hw.2.2.1
  clear hw
  have hwk : n ≤ 2 ∨ LawOk 2 sz2 uw2 tx2 op val lF lM lT ls := by
    by_cases q : 2 < n
    · exact Or.inr (hwi q)
    · exact Or.inl (Nat.le_of_not_lt q)
  clear hwi
  revert hwk
  have hP := hl.1
  obtain ⟨n2, rfl⟩ : ∃ k, n2 = k + 1 := ⟨n2 - 1, by omega⟩
  unfold x8_book_i_87_u3
  rw [x9_book_85]
  by_cases q : n ≤ 2
  · intro _
    have g : I n ≤ 2 := by show I n ≤ I 2; rw [I_le (by omega) (by omega)]; omega
    rw [if_pos g, if_pos g, x9_book_248]
    by_cases w : p3 = 0
    · rw [if_pos w, if_pos w]; exact ⟨_, _, rfl, rfl, rfl, h1.mono (by omega), h2.mono (by omega)⟩
    · rw [if_neg w, if_neg w]
      cases b with
      | none => exact absurd rfl hbn
      | some v => exact ⟨_, _, rfl, rfl, rfl, h1.mono (by omega), h2.mono (by omega)⟩
  · have g : ¬ (I n ≤ 2) := by show ¬ (I n ≤ I 2); rw [I_le (by omega) (by omega)]; omega
    have e0 : x8_lawText (I n) 2 = some false := by unfold x8_lawText; rw [if_neg (by decide), if_neg g, if_neg (by decide), show inB 2 4 = true by decide, bif_t]
    intro hwk
    obtain ⟨Q, hC, hM⟩ := hwk.resolve_left q
    clear hwk
    have hc : LwC false sz2 tx2 (some Q) := Or.inr ⟨rfl, Q, uw2, rfl, hC⟩
    have hm : LwM 2 op val lF lM lT ls (some Q) := Or.inr ⟨2, Q, sz2, uw2, tx2, by omega, rfl, rfl, hM, hC⟩
    obtain ⟨hb1, hbf⟩ := h1.forget (by omega)
    obtain ⟨hg1, _⟩ := h2.forget (by omega)
    obtain ⟨fa3, pile3, st3, e8, hS⟩ := r_layStops (seed := m7) (sg := m6) (we := m5) hl hpe hm fa2 pile st2
    rw [if_neg g, if_neg g, e0, x7_judgeBy, x7_forget, x2_forget, x2_forget, e8, Option.bind_some, Option.bind_some, Option.bind_some, Option.bind_some, Option.bind_some, Option.bind_some]
    dsimp only
    rw [x7_offFrom]
    obtain ⟨S', fa', stops', rs', vs', stk', z1, z2, z3, z4⟩ := offLoop hl hpe hc hS hs hN hPN hel ht (fun z0 z1 z2 z3 z4 z5 z6 => x9_book_85 (I P) (I R) m4 m5 m6 m7 (I n) fo m4 m7 m6 el (A 4) held (A 3) (A 2) len lF lM lT ls op (A 1) (A 6) (A 0) val (I s) (I t) p3 n2 z0 z1 z2 z3 z4 z5 z6) m4 m5 m6 m7 (I n) fo 2 m4 m7 m6 held fa3 len lF lM lT ls op pile3 val p3 l5 (nb b) 2 P yN yN 0 0 fa stops brs bvs sk2 (by omega) (by unfold yN; omega) (by unfold yN; omega) (by omega) (hbf bvs _)
    rw [show I 0 = 0 from rfl] at z3 z4
    have hb2 := hb1.of (by omega) z2.2
    rw [z3, Option.bind_some, z4]
    dsimp only
    rw [x9_book_219]
    rcases pickB hb (show S' < 100000 by omega) with ⟨q1, q2, q3⟩ | ⟨q1, q2⟩
    · rw [if_pos q1, if_neg q2, if_neg q3, x8_book_i_136_u3, x9_book_242, show (2 : Int32) + 1 = 3 by decide]
      exact bookU4 hB x2 has st g0 md fo p3 tg held len hBB b hb hbn (S0 + 1) (by omega) n2 (by omega) _ _ _ _ _ _ _ _ _ _ _ _ _ _ _ _ _ _ hb2 hg1
    · rw [if_neg q1]
      rcases q2 with q2 | ⟨q2, q3⟩
      · rw [if_pos q2, x8_book_i_136_u3, x9_book_234, x9_book_242, show (2 : Int32) + 1 = 3 by decide]
        exact bookU4 hB x2 has st g0 md fo p3 tg held len hBB (some S') (fun u hu => by injection hu with hu; omega) (fun e => by cases e) (S0 + 1) (by omega) n2 (by omega) _ _ _ _ _ _ _ _ _ _ _ _ _ _ _ _ _ _ hb2 hg1
      · rw [if_neg q2, if_pos q3, x8_book_i_136_u3, x9_book_234, x9_book_242, show (2 : Int32) + 1 = 3 by decide]
        exact bookU4 hB x2 has st g0 md fo p3 tg held len hBB (some S') (fun u hu => by injection hu with hu; omega) (fun e => by cases e) (S0 + 1) (by omega) n2 (by omega) _ _ _ _ _ _ _ _ _ _ _ _ _ _ _ _ _ _ hb2 hg1
theorem bookU2 (hB : BC P R A n m4 sz0 sz1 sz2 sz3 uw0 uw1 uw2 uw3 tx0 tx1 tx2 tx3 op val lF lM lT ls s N cells el t) (x2 : Int32) (has : Bool) (st : Nat → Int32) (g0 md fo p3 : Int32) (tg held len : Nat → Int32) {B : Nat} (hBB : B < 100000) (b : Option Nat) (hb : ∀ u, b = some u → u < 100000) (hbn : b ≠ none) (S0 : Nat) (hS0 : S0 + 3 ≤ B) (n2 : Nat) (hn2 : 3 < n2) (br gr l5 bl : Int32) (brs grs bvs sk0 sk1 sk2 sk3 fa stops fa2 pile st2 : Nat → Int32) (lb rb : Bool) (h1 : Rd S0 br brs) (h2 : Rd S0 gr grs) :
    ∃ o1 o2, x8_book_i_87_u2 (I n) x2 has sz0 sz1 sz2 sz3 (I 2) (I N) st tx0 sk1 tx1 sk2 tx2 sk3 tx3 cells (I P) (I R) (A 6) (A 4) (A 2) (A 5) (A 1) (A 0) (A 3) (I t) p3 m4 m5 m6 g0 m7 md sk0 br fa gr stops tg brs bvs lb rb l5 (never b) = some o1 ∧ x9_book_85 (I P) (I R) m4 m5 m6 m7 (I n) fo m4 m7 m6 el (A 4) held (A 3) (A 2) len lF lM lT ls op (A 1) (A 6) (A 0) val (I s) (I t) p3 n2 bl fa2 pile st2 l5 (nb b) 1 = some o2 ∧ o1.1 = o2.1 ∧ Rd B o1.2.2.2.2.2.2.2.2.2.2.2.1 o1.2.2.2.2.2.2.2.2.2.2.2.2.2.2.2.2.1 ∧ Rd B o1.2.2.2.2.2.2.2.2.2.2.2.2.2.1 grs := by
  have hB2 := hB
  obtain ⟨hl, hpe, hn, hw, hs, hN, hPN, hel, ht⟩ := hB2
  have hwi : 1 < n → LawOk 1 sz1 uw1 tx1 op val lF lM lT ls := hw.2.1
  clear hw
  have hwk : n ≤ 1 ∨ LawOk 1 sz1 uw1 tx1 op val lF lM lT ls := by
    by_cases q : 1 < n
    · exact Or.inr (hwi q)
    · exact Or.inl (Nat.le_of_not_lt q)
  clear hwi
  revert hwk
  have hP := hl.1
  obtain ⟨n2, rfl⟩ : ∃ k, n2 = k + 1 := ⟨n2 - 1, by omega⟩
  unfold x8_book_i_87_u2
  rw [x9_book_85]
  by_cases q : n ≤ 1
  · intro _
    have g : I n ≤ 1 := by show I n ≤ I 1; rw [I_le (by omega) (by omega)]; omega
    rw [if_pos g, if_pos g, x9_book_248]
    by_cases w : p3 = 0
    · rw [if_pos w, if_pos w]; exact ⟨_, _, rfl, rfl, rfl, h1.mono (by omega), h2.mono (by omega)⟩
    · rw [if_neg w, if_neg w]
      cases b with
      | none => exact absurd rfl hbn
      | some v => exact ⟨_, _, rfl, rfl, rfl, h1.mono (by omega), h2.mono (by omega)⟩
  · have g : ¬ (I n ≤ 1) := by show ¬ (I n ≤ I 1); rw [I_le (by omega) (by omega)]; omega
    have e0 : x8_lawText (I n) 1 = some false := by unfold x8_lawText; rw [if_neg (by decide), if_neg g, if_neg (by decide), show inB 1 4 = true by decide, bif_t]
    intro hwk
    obtain ⟨Q, hC, hM⟩ := hwk.resolve_left q
    clear hwk
    have hc : LwC false sz1 tx1 (some Q) := Or.inr ⟨rfl, Q, uw1, rfl, hC⟩
    have hm : LwM 1 op val lF lM lT ls (some Q) := Or.inr ⟨1, Q, sz1, uw1, tx1, by omega, rfl, rfl, hM, hC⟩
    obtain ⟨hb1, hbf⟩ := h1.forget (by omega)
    obtain ⟨hg1, _⟩ := h2.forget (by omega)
    obtain ⟨fa3, pile3, st3, e8, hS⟩ := r_layStops (seed := m7) (sg := m6) (we := m5) hl hpe hm fa2 pile st2
    rw [if_neg g, if_neg g, e0, x7_judgeBy, x7_forget, x2_forget, x2_forget, e8, Option.bind_some, Option.bind_some, Option.bind_some, Option.bind_some, Option.bind_some, Option.bind_some]
    dsimp only
    rw [x7_offFrom]
    obtain ⟨S', fa', stops', rs', vs', stk', z1, z2, z3, z4⟩ := offLoop hl hpe hc hS hs hN hPN hel ht (fun z0 z1 z2 z3 z4 z5 z6 => x9_book_85 (I P) (I R) m4 m5 m6 m7 (I n) fo m4 m7 m6 el (A 4) held (A 3) (A 2) len lF lM lT ls op (A 1) (A 6) (A 0) val (I s) (I t) p3 n2 z0 z1 z2 z3 z4 z5 z6) m4 m5 m6 m7 (I n) fo 1 m4 m7 m6 held fa3 len lF lM lT ls op pile3 val p3 l5 (nb b) 1 P yN yN 0 0 fa stops brs bvs sk1 (by omega) (by unfold yN; omega) (by unfold yN; omega) (by omega) (hbf bvs _)
    rw [show I 0 = 0 from rfl] at z3 z4
    have hb2 := hb1.of (by omega) z2.2
    rw [z3, Option.bind_some, z4]
    dsimp only
    rw [x9_book_219]
    rcases pickB hb (show S' < 100000 by omega) with ⟨q1, q2, q3⟩ | ⟨q1, q2⟩
    · rw [if_pos q1, if_neg q2, if_neg q3, x8_book_i_136_u2, x9_book_242, show (1 : Int32) + 1 = 2 by decide]
      exact bookU3 hB x2 has st g0 md fo p3 tg held len hBB b hb hbn (S0 + 1) (by omega) n2 (by omega) _ _ _ _ _ _ _ _ _ _ _ _ _ _ _ _ _ _ hb2 hg1
    · rw [if_neg q1]
      rcases q2 with q2 | ⟨q2, q3⟩
      · rw [if_pos q2, x8_book_i_136_u2, x9_book_234, x9_book_242, show (1 : Int32) + 1 = 2 by decide]
        exact bookU3 hB x2 has st g0 md fo p3 tg held len hBB (some S') (fun u hu => by injection hu with hu; omega) (fun e => by cases e) (S0 + 1) (by omega) n2 (by omega) _ _ _ _ _ _ _ _ _ _ _ _ _ _ _ _ _ _ hb2 hg1
      · rw [if_neg q2, if_pos q3, x8_book_i_136_u2, x9_book_234, x9_book_242, show (1 : Int32) + 1 = 2 by decide]
        exact bookU3 hB x2 has st g0 md fo p3 tg held len hBB (some S') (fun u hu => by injection hu with hu; omega) (fun e => by cases e) (S0 + 1) (by omega) n2 (by omega) _ _ _ _ _ _ _ _ _ _ _ _ _ _ _ _ _ _ hb2 hg1
theorem bookU1 (hB : BC P R A n m4 sz0 sz1 sz2 sz3 uw0 uw1 uw2 uw3 tx0 tx1 tx2 tx3 op val lF lM lT ls s N cells el t) (x2 : Int32) (has : Bool) (st : Nat → Int32) (g0 md fo p3 : Int32) (tg held len : Nat → Int32) {B : Nat} (hBB : B < 100000) (b : Option Nat) (hb : ∀ u, b = some u → u < 100000) (hbn : b ≠ none) (S0 : Nat) (hS0 : S0 + 4 ≤ B) (n2 : Nat) (hn2 : 4 < n2) (br gr l5 bl : Int32) (brs grs bvs sk0 sk1 sk2 sk3 fa stops fa2 pile st2 : Nat → Int32) (lb rb : Bool) (h1 : Rd S0 br brs) (h2 : Rd S0 gr grs) :
    ∃ o1 o2, x8_book_i_87_u1 (I n) x2 has sz0 sz1 sz2 sz3 (I 2) (I N) st tx0 sk1 tx1 sk2 tx2 sk3 tx3 cells (I P) (I R) (A 6) (A 4) (A 2) (A 5) (A 1) (A 0) (A 3) (I t) p3 m4 m5 m6 g0 m7 md sk0 br fa gr stops tg brs bvs lb rb l5 (never b) = some o1 ∧ x9_book_85 (I P) (I R) m4 m5 m6 m7 (I n) fo m4 m7 m6 el (A 4) held (A 3) (A 2) len lF lM lT ls op (A 1) (A 6) (A 0) val (I s) (I t) p3 n2 bl fa2 pile st2 l5 (nb b) 0 = some o2 ∧ o1.1 = o2.1 ∧ Rd B o1.2.2.2.2.2.2.2.2.2.2.2.1 o1.2.2.2.2.2.2.2.2.2.2.2.2.2.2.2.2.1 ∧ Rd B o1.2.2.2.2.2.2.2.2.2.2.2.2.2.1 grs := by
  have hB2 := hB
  obtain ⟨hl, hpe, hn, hw, hs, hN, hPN, hel, ht⟩ := hB2
  have hwi : 0 < n → LawOk 0 sz0 uw0 tx0 op val lF lM lT ls := hw.1
  clear hw
  have hwk : n ≤ 0 ∨ LawOk 0 sz0 uw0 tx0 op val lF lM lT ls := by
    by_cases q : 0 < n
    · exact Or.inr (hwi q)
    · exact Or.inl (Nat.le_of_not_lt q)
  clear hwi
  revert hwk
  have hP := hl.1
  obtain ⟨n2, rfl⟩ : ∃ k, n2 = k + 1 := ⟨n2 - 1, by omega⟩
  unfold x8_book_i_87_u1
  rw [x9_book_85]
  by_cases q : n ≤ 0
  · intro _
    have g : I n ≤ 0 := by show I n ≤ I 0; rw [I_le (by omega) (by omega)]; omega
    rw [if_pos g, if_pos g, x9_book_248]
    by_cases w : p3 = 0
    · rw [if_pos w, if_pos w]; exact ⟨_, _, rfl, rfl, rfl, h1.mono (by omega), h2.mono (by omega)⟩
    · rw [if_neg w, if_neg w]
      cases b with
      | none => exact absurd rfl hbn
      | some v => exact ⟨_, _, rfl, rfl, rfl, h1.mono (by omega), h2.mono (by omega)⟩
  · have g : ¬ (I n ≤ 0) := by show ¬ (I n ≤ I 0); rw [I_le (by omega) (by omega)]; omega
    have e0 : x8_lawText (I n) 0 = some false := by unfold x8_lawText; rw [if_neg (by decide), if_neg g, if_neg (by decide), show inB 0 4 = true by decide, bif_t]
    intro hwk
    obtain ⟨Q, hC, hM⟩ := hwk.resolve_left q
    clear hwk
    have hc : LwC false sz0 tx0 (some Q) := Or.inr ⟨rfl, Q, uw0, rfl, hC⟩
    have hm : LwM 0 op val lF lM lT ls (some Q) := Or.inr ⟨0, Q, sz0, uw0, tx0, by omega, rfl, rfl, hM, hC⟩
    obtain ⟨hb1, hbf⟩ := h1.forget (by omega)
    obtain ⟨hg1, _⟩ := h2.forget (by omega)
    obtain ⟨fa3, pile3, st3, e8, hS⟩ := r_layStops (seed := m7) (sg := m6) (we := m5) hl hpe hm fa2 pile st2
    rw [if_neg g, if_neg g, e0, x7_judgeBy, x7_forget, x2_forget, x2_forget, e8, Option.bind_some, Option.bind_some, Option.bind_some, Option.bind_some, Option.bind_some, Option.bind_some]
    dsimp only
    rw [x7_offFrom]
    obtain ⟨S', fa', stops', rs', vs', stk', z1, z2, z3, z4⟩ := offLoop hl hpe hc hS hs hN hPN hel ht (fun z0 z1 z2 z3 z4 z5 z6 => x9_book_85 (I P) (I R) m4 m5 m6 m7 (I n) fo m4 m7 m6 el (A 4) held (A 3) (A 2) len lF lM lT ls op (A 1) (A 6) (A 0) val (I s) (I t) p3 n2 z0 z1 z2 z3 z4 z5 z6) m4 m5 m6 m7 (I n) fo 0 m4 m7 m6 held fa3 len lF lM lT ls op pile3 val p3 l5 (nb b) 0 P yN yN 0 0 fa stops brs bvs sk0 (by omega) (by unfold yN; omega) (by unfold yN; omega) (by omega) (hbf bvs _)
    rw [show I 0 = 0 from rfl] at z3 z4
    have hb2 := hb1.of (by omega) z2.2
    rw [z3, Option.bind_some, z4]
    dsimp only
    rw [x9_book_219]
    rcases pickB hb (show S' < 100000 by omega) with ⟨q1, q2, q3⟩ | ⟨q1, q2⟩
    · rw [if_pos q1, if_neg q2, if_neg q3, x8_book_i_136_u1, x9_book_242, show (0 : Int32) + 1 = 1 by decide]
      exact bookU2 hB x2 has st g0 md fo p3 tg held len hBB b hb hbn (S0 + 1) (by omega) n2 (by omega) _ _ _ _ _ _ _ _ _ _ _ _ _ _ _ _ _ _ hb2 hg1
    · rw [if_neg q1]
      rcases q2 with q2 | ⟨q2, q3⟩
      · rw [if_pos q2, x8_book_i_136_u1, x9_book_234, x9_book_242, show (0 : Int32) + 1 = 1 by decide]
        exact bookU2 hB x2 has st g0 md fo p3 tg held len hBB (some S') (fun u hu => by injection hu with hu; omega) (fun e => by cases e) (S0 + 1) (by omega) n2 (by omega) _ _ _ _ _ _ _ _ _ _ _ _ _ _ _ _ _ _ hb2 hg1
      · rw [if_neg q2, if_pos q3, x8_book_i_136_u1, x9_book_234, x9_book_242, show (0 : Int32) + 1 = 1 by decide]
        exact bookU2 hB x2 has st g0 md fo p3 tg held len hBB (some S') (fun u hu => by injection hu with hu; omega) (fun e => by cases e) (S0 + 1) (by omega) n2 (by omega) _ _ _ _ _ _ _ _ _ _ _ _ _ _ _ _ _ _ hb2 hg1
theorem bookU0 (hB : BC P R A n m4 sz0 sz1 sz2 sz3 uw0 uw1 uw2 uw3 tx0 tx1 tx2 tx3 op val lF lM lT ls s N cells el t) (x2 : Int32) (has : Bool) (st : Nat → Int32) (g0 md fo p3 : Int32) (tg held len : Nat → Int32) {B : Nat} (hBB : B < 100000) (b : Option Nat) (hb : ∀ u, b = some u → u < 100000) (S0 : Nat) (hS0 : S0 + 5 ≤ B) (n2 : Nat) (hn2 : 5 < n2) (br gr l5 bl : Int32) (brs grs bvs sk0 sk1 sk2 sk3 fa stops fa2 pile st2 : Nat → Int32) (lb rb : Bool) (h1 : Rd S0 br brs) (h2 : Rd S0 gr grs) :
    ∃ o1 o2, x8_book_i_87_u0 (I n) x2 has sz0 sz1 sz2 sz3 (I 2) (I N) st tx0 sk1 tx1 sk2 tx2 sk3 tx3 cells (I P) (I R) (A 6) (A 4) (A 2) (A 5) (A 1) (A 0) (A 3) (I t) p3 m4 m5 m6 g0 m7 md sk0 br fa gr stops tg brs bvs lb rb l5 (never b) = some o1 ∧ x9_book_85 (I P) (I R) m4 m5 m6 m7 (I n) fo m4 m7 m6 el (A 4) held (A 3) (A 2) len lF lM lT ls op (A 1) (A 6) (A 0) val (I s) (I t) p3 n2 bl fa2 pile st2 l5 (nb b) (-1) = some o2 ∧ o1.1 = o2.1 ∧ Rd B o1.2.2.2.2.2.2.2.2.2.2.2.1 o1.2.2.2.2.2.2.2.2.2.2.2.2.2.2.2.2.1 ∧ Rd B o1.2.2.2.2.2.2.2.2.2.2.2.2.2.1 grs := by
  have hB2 := hB
  obtain ⟨hl, hpe, hn, hw, hs, hN, hPN, hel, ht⟩ := hB2
  clear hw
  have hP := hl.1
  obtain ⟨n2, rfl⟩ : ∃ k, n2 = k + 1 := ⟨n2 - 1, by omega⟩
  unfold x8_book_i_87_u0
  rw [x9_book_85]
  have g : ¬ (I n ≤ (-1)) := fun h => by
    have a : I 0 ≤ I n := by rw [I_le (by omega) (by omega)]; omega
    have := Int32.le_trans a h
    exact absurd this (by decide)
  have e0 : x8_lawText (I n) (-1) = some true := rfl
  have hc : LwC true sz0 tx0 none := Or.inl ⟨rfl, rfl⟩
  have hm : LwM (-1) op val lF lM lT ls none := Or.inl ⟨rfl, rfl⟩
  obtain ⟨hb1, hbf⟩ := h1.forget (by omega)
  obtain ⟨hg1, _⟩ := h2.forget (by omega)
  obtain ⟨fa3, pile3, st3, e8, hS⟩ := r_layStops (seed := m7) (sg := m6) (we := m5) hl hpe hm fa2 pile st2
  rw [if_neg g, if_neg g, e0, x7_judgeBy, x7_forget, x2_forget, x2_forget, e8, Option.bind_some, Option.bind_some, Option.bind_some, Option.bind_some, Option.bind_some, Option.bind_some]
  dsimp only
  rw [x7_offFrom]
  obtain ⟨S', fa', stops', rs', vs', stk', z1, z2, z3, z4⟩ := offLoop hl hpe hc hS hs hN hPN hel ht (fun z0 z1 z2 z3 z4 z5 z6 => x9_book_85 (I P) (I R) m4 m5 m6 m7 (I n) fo m4 m7 m6 el (A 4) held (A 3) (A 2) len lF lM lT ls op (A 1) (A 6) (A 0) val (I s) (I t) p3 n2 z0 z1 z2 z3 z4 z5 z6) m4 m5 m6 m7 (I n) fo (-1) m4 m7 m6 held fa3 len lF lM lT ls op pile3 val p3 l5 (nb b) (-1) P yN yN 0 0 fa stops brs bvs sk0 (by omega) (by unfold yN; omega) (by unfold yN; omega) (by omega) (hbf bvs _)
  rw [show I 0 = 0 from rfl] at z3 z4
  have hb2 := hb1.of (by omega) z2.2
  rw [z3, Option.bind_some, z4]
  dsimp only
  rw [x9_book_219]
  rcases pickB hb (show S' < 100000 by omega) with ⟨q1, q2, q3⟩ | ⟨q1, q2⟩
  · rw [if_pos q1, if_neg q2, if_neg q3, x8_book_i_136_u0, x9_book_242, show ((-1) : Int32) + 1 = 0 by decide]
    exact bookU1 hB x2 has st g0 md fo p3 tg held len hBB b hb (fun e => by rw [e] at q2; exact q2 (by decide)) (S0 + 1) (by omega) n2 (by omega) _ _ _ _ _ _ _ _ _ _ _ _ _ _ _ _ _ _ hb2 hg1
  · rw [if_neg q1]
    rcases q2 with q2 | ⟨q2, q3⟩
    · rw [if_pos q2, x8_book_i_136_u0, x9_book_234, x9_book_242, show ((-1) : Int32) + 1 = 0 by decide]
      exact bookU1 hB x2 has st g0 md fo p3 tg held len hBB (some S') (fun u hu => by injection hu with hu; omega) (fun e => by cases e) (S0 + 1) (by omega) n2 (by omega) _ _ _ _ _ _ _ _ _ _ _ _ _ _ _ _ _ _ hb2 hg1
    · rw [if_neg q2, if_pos q3, x8_book_i_136_u0, x9_book_234, x9_book_242, show ((-1) : Int32) + 1 = 0 by decide]
      exact bookU1 hB x2 has st g0 md fo p3 tg held len hBB (some S') (fun u hu => by injection hu with hu; omega) (fun e => by cases e) (S0 + 1) (by omega) n2 (by omega) _ _ _ _ _ _ _ _ _ _ _ _ _ _ _ _ _ _ hb2 hg1
end trip

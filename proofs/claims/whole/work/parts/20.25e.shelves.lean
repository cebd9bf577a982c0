/-! shelves: taken, shift, roads; acts as a call; counts -/
theorem underSame : ∀ k, k < 8 → ∀ j, j < 8 → x0_isUnder (I k) (I j) = x9_isUnder (I k) (I j) ∧ (x9_isUnder (I k) (I j)).isSome = true := by decide +kernel
theorem m_taken {s nb : Nat} (hs : s < 6) {x22 m24 x23 m25 : Int32} {kinds trace mk mt : Nat → Int32} (hb : BodOk nb x22 m24 x23 m25 kinds trace mk mt) {sort body size : Int32} {cells : Nat → Int64} {held len : Nat → Int32} {el : Nat → Int64} (h : ShOk s sort body size cells held len el nb) (p : Int32) :
    ∃ r, x8_taken_i x22 sort body kinds (I s) p = some r ∧ x9_taken held mk (I s) p = some r := by
  obtain ⟨i1, i2, i3, i4⟩ := shI hs
  obtain ⟨hnb, rfl, _, rfl, _, _, _, h7⟩ := hb
  unfold x8_taken_i x9_taken
  rw [i1, i2, i3, i4, isRowI hs, Option.bind_some, Option.bind_some, bif_t, bif_t]
  unfold x9_within
  by_cases q1 : p < 0
  · rw [if_pos q1, if_pos q1]; exact ⟨-1, rfl, rfl⟩
  · rw [if_neg q1, if_neg q1]
    by_cases q2 : 7 < p
    · have q3 : ¬ p < 8 := by
        rw [Int32.lt_iff_toInt_lt] at q2 ⊢
        have : (7 : Int32).toInt = 7 := by decide
        have : (8 : Int32).toInt = 8 := by decide
        omega
      rw [if_pos q2, if_neg q3]; exact ⟨-1, rfl, rfl⟩
    · have q3 : p < 8 := by
        rw [Int32.lt_iff_toInt_lt] at q2 ⊢
        have : (7 : Int32).toInt = 7 := by decide
        have : (8 : Int32).toInt = 8 := by decide
        omega
      obtain ⟨j, _, hj, rfl⟩ := In_of (v := p) (a := 0) (b := 7) (by omega) (by omega) q1 q2
      rw [if_neg q2, if_pos q3, Option.bind_some, bif_t]
      rcases h with ⟨rfl, a2⟩ | ⟨rfl, b, a2, rfl, a4⟩ | ⟨q, hq, rfl, a3, n, hn, rfl, a6, a7⟩
      · rw [a2, if_pos rfl, show x5_holdsNothing (-1) = some true by decide]; exact ⟨-11, rfl, rfl⟩
      · obtain ⟨b1, b2, b3⟩ := negb (b := b) (by omega)
        obtain ⟨k, _, hk, e⟩ := h7 b a2
        have hh : x0_has (I nb) (I b) = some true := by
          rcases has_is hnb (I b) with ⟨_, _, _, h1, _⟩ | ⟨_, _, h3⟩
          · exact h1
          · exact absurd rfl (h3 b a2)
        rw [a4, if_neg b1, decide_eq_false (fun h => h b2), show x5_holdsNothing 5 = some false by decide, show x5_holdsRow 5 = some false by decide, Option.bind_some, Option.bind_some, Option.bind_some, bif_f, bif_f, bif_f, hh, b3, Option.bind_some, bif_t, bif_t, bif_t, I_clamp (n := b) (by omega), e]
        obtain ⟨u1, u2⟩ := underSame k (by omega) j (by omega)
        cases hu : x9_isUnder (I k) (I j) with
        | none => rw [hu] at u2; cases u2
        | some g =>
          rw [u1, hu, Option.bind_some, Option.bind_some]
          cases g
          · exact ⟨-12, rfl, rfl⟩
          · exact ⟨_, rfl, rfl⟩
      · obtain ⟨n1, n2, n3, n4, n5, n6, n7⟩ := negq hq
        obtain ⟨f1, f2⟩ := rowFacts hq
        rw [a3, if_neg n1, decide_eq_true n2, f1, f2]; exact ⟨-12, rfl, rfl⟩
/-- elements that come to another row -/
theorem sh151 {t j m : Nat} (ht : t < 6) (hj : j + m ≤ 60) (held len : Nat → Int32) (mo : Nat → Int64) : ∀ c n k (el : Nat → Int64), k + c = m → c < n → ∃ el', x9_shift_151 held len mo (I t) (I j) (I m) n el (I k) = some (I m, el', mo) ∧ ∀ x, el' x = if 60 * t + j + k ≤ x ∧ x < 60 * t + j + m then mo (x - (60 * t + j)) else el x := by
  intro c
  induction c with
  | zero =>
    intro n k el hk hn
    obtain ⟨n, rfl⟩ : ∃ k, n = k + 1 := ⟨n - 1, by omega⟩
    exact ⟨el, by rw [x9_shift_151, if_pos (by rw [I_le (by omega) (by omega)]; omega)], fun x => by rw [if_neg (by omega)]⟩
  | succ c ih =>
    intro n k el hk hn
    obtain ⟨n, rfl⟩ : ∃ k, n = k + 1 := ⟨n - 1, by omega⟩
    have e : (60 : Int32) * I t + I j + I k = I (60 * t + j + k) := by show I 60 * I t + I j + I k = _; rw [I_mul, I_add, I_add]
    obtain ⟨el', e1, h1⟩ := ih n (k + 1) (vp_updL el (60 * t + j + k) (mo k)) (by omega) (by omega)
    refine ⟨el', ?_, fun x => ?_⟩
    · rw [x9_shift_151, if_neg (by rw [I_le (by omega) (by omega)]; omega), I_inB (by omega), decide_eq_true (by omega : k < 60), bif_t, e, I_inB (by omega), decide_eq_true (by omega : 60 * t + j + k < 360), bif_t, I_clamp (by omega), I_clamp (by omega), I_succ]
      exact e1
    · rw [h1 x]
      by_cases q : 60 * t + j + (k + 1) ≤ x ∧ x < 60 * t + j + m
      · rw [if_pos q, if_pos (by omega)]
      · rw [if_neg q]
        unfold vp_updL
        by_cases w : x = 60 * t + j + k
        · rw [if_pos w, if_pos (by omega), w, show 60 * t + j + k - (60 * t + j) = k by omega]
        · rw [if_neg w, if_neg (by omega)]
theorem sh114 {s i t j m : Nat} (hs : s < 6) (hi : i + m ≤ 60) (ht : t < 6) (hj : j + m ≤ 60) (held len : Nat → Int32) (el : Nat → Int64) : ∀ c n k (mo : Nat → Int64), k + c = m → c < n → (∀ x, x < k → mo x = el (60 * s + i + x)) → ∃ el' mo', x9_shift_114 el held len (I s) (I i) (I t) (I j) (I m) n mo (I k) = some (I m, el', mo') ∧ ∀ x, el' x = if 60 * t + j ≤ x ∧ x < 60 * t + j + m then el (60 * s + i + (x - (60 * t + j))) else el x := by
  intro c
  induction c with
  | zero =>
    intro n k mo hk hn hm
    obtain ⟨n, rfl⟩ : ∃ k, n = k + 1 := ⟨n - 1, by omega⟩
    obtain ⟨el', e1, h1⟩ := sh151 ht hj held len mo m yN 0 el (by omega) (by unfold yN; omega)
    refine ⟨el', mo, ?_, fun x => ?_⟩
    · rw [x9_shift_114, if_pos (by rw [I_le (by omega) (by omega)]; omega)]; exact e1
    · rw [h1 x, Nat.add_zero]
      by_cases q : 60 * t + j ≤ x ∧ x < 60 * t + j + m
      · rw [if_pos q, if_pos q, hm _ (by omega)]
      · rw [if_neg q, if_neg q]
  | succ c ih =>
    intro n k mo hk hn hm
    obtain ⟨n, rfl⟩ : ∃ k, n = k + 1 := ⟨n - 1, by omega⟩
    have e : (60 : Int32) * I s + I i + I k = I (60 * s + i + k) := by show I 60 * I s + I i + I k = _; rw [I_mul, I_add, I_add]
    obtain ⟨el', mo', e1, h1⟩ := ih n (k + 1) (vp_updL mo k (el (60 * s + i + k))) (by omega) (by omega) (fun x hx => by
      unfold vp_updL
      by_cases w : x = k
      · rw [if_pos w, w]
      · rw [if_neg w]; exact hm x (by omega))
    refine ⟨el', mo', ?_, h1⟩
    rw [x9_shift_114, if_neg (by rw [I_le (by omega) (by omega)]; omega), e, I_inB (by omega), decide_eq_true (by omega : 60 * s + i + k < 360), bif_t, I_inB (by omega), decide_eq_true (by omega : k < 60), bif_t, I_clamp (by omega), I_clamp (by omega), I_succ]
    exact e1
/-- which elements are there, of any number of them -/
theorem cellsN {q n : Nat} (hq : q ≤ 4) (hn : n ≤ 60) (p c : Int32) : (∃ k m, k + m ≤ n ∧ p = I k ∧ c = I m ∧ x5_holdsCells (I q) (I n) p c = some true) ∨ (x5_holdsCells (I q) (I n) p c = some false ∧ (c < 0 ∨ p < 0 ∨ (¬ c < 0 ∧ ¬ p < 0 ∧ I n - c < p))) := by
  obtain ⟨_, _, _, _, n5, n6, _⟩ := negq hq
  have hr : x5_holdsRow (I q) = some true := by unfold x5_holdsRow; rw [if_neg n5, if_neg n6]
  unfold x5_holdsCells
  rw [hr, Option.bind_some, bif_t]
  rcases I_or p with ⟨k, hk, rfl⟩ | hp
  · have h0 : ¬ (I k < 0) := by show ¬ (I k < I 0); rw [I_lt (by omega) (by omega)]; omega
    rw [if_neg h0]
    rcases I_or c with ⟨m, hm, rfl⟩ | hc
    · have hc0 : ¬ (I m < 0) := by show ¬ (I m < I 0); rw [I_lt (by omega) (by omega)]; omega
      have e1 : (I n - I m : Int32).toInt = (n : Int) - m := by
        rw [Int32.toInt_sub, I_toInt (by omega), I_toInt (by omega), Int.bmod_def]; omega
      rw [if_neg hc0]
      by_cases w : n < m
      · rw [if_pos (by rw [I_lt (by omega) (by omega)]; exact w)]
        exact Or.inr ⟨rfl, Or.inr (Or.inr ⟨hc0, h0, by rw [Int32.lt_iff_toInt_lt, e1, I_toInt hk]; omega⟩)⟩
      · rw [if_neg (by rw [I_lt (by omega) (by omega)]; exact w)]
        by_cases w2 : I n - I m < I k
        · rw [if_pos w2]; exact Or.inr ⟨rfl, Or.inr (Or.inr ⟨hc0, h0, w2⟩)⟩
        · rw [if_neg w2]
          rw [Int32.lt_iff_toInt_lt, e1, I_toInt hk] at w2
          exact Or.inl ⟨k, m, by omega, rfl, rfl, rfl⟩
    · rw [if_pos hc]; exact Or.inr ⟨rfl, Or.inl hc⟩
  · rw [if_pos hp]; exact Or.inr ⟨rfl, Or.inr (Or.inl hp)⟩
theorem subq {q r : Nat} (hq : q ≤ 4) (hr : r ≤ 4) : ((-2 - I q : Int32) = -2 - I r) ↔ q = r := by
  have h1 : q = 0 ∨ q = 1 ∨ q = 2 ∨ q = 3 ∨ q = 4 := by omega
  have h2 : r = 0 ∨ r = 1 ∨ r = 2 ∨ r = 3 ∨ r = 4 := by omega
  rcases h1 with h | h | h | h | h <;> subst h <;> rcases h2 with h | h | h | h | h <;> subst h <;> decide
theorem subb {q b : Nat} (hq : q ≤ 4) (hb : b < 50) : (-2 - I q : Int32) ≠ I b := by
  intro h
  have h1 := congrArg Int32.toInt h
  rw [I_toInt (by omega)] at h1
  have h2 : q = 0 ∨ q = 1 ∨ q = 2 ∨ q = 3 ∨ q = 4 := by omega
  rcases h2 with h | h | h | h | h <;> subst h
  · have : (-2 - I 0 : Int32).toInt = -2 := by decide
    omega
  · have : (-2 - I 1 : Int32).toInt = -3 := by decide
    omega
  · have : (-2 - I 2 : Int32).toInt = -4 := by decide
    omega
  · have : (-2 - I 3 : Int32).toInt = -5 := by decide
    omega
  · have : (-2 - I 4 : Int32).toInt = -6 := by decide
    omega
/-- what both variants of shift share -/
def shiftC (sort1 size1 sort3 size3 : Int32) (c1 c3 : Nat → Int64) (p1 p2 p3 p4 p5 : Int32) : Option (Int32 × (Nat → Int64)) :=
  (x8_shelfAt_i p1).bind fun _ => (x8_shelfAt_i p3).bind fun _ => (x5_holdsNothing sort1).bind fun o3 => bif o3 then (some ((-11), c3)) else ((x5_holdsNothing sort3).bind fun o4 => bif o4 then (some ((-11), c3)) else ((x5_holdsRow sort1).bind fun o5 => bif o5 then ((x5_holdsRowOf sort3 sort1).bind fun o6 => bif o6 then ((x5_holdsCells sort1 size1 p2 p5).bind fun o7 => bif o7 then ((x5_holdsCells sort3 size3 p4 p5).bind fun o8 => bif o8 then (bif okC p2 p4 p5 60 60 then (some (p5, (va_cpy c1 c3 p2.toNatClampNeg p4.toNatClampNeg p5.toNatClampNeg))) else none) else (some ((-13), c3))) else (some ((-13), c3))) else (some ((-12), c3))) else (some ((-12), c3))))
theorem m_shift {s t nb : Nat} (hs : s < 6) (ht : t < 6) (hnb : nb ≤ 50) {sort1 body1 size1 sort3 body3 size3 : Int32} {c1 c3 : Nat → Int64} {held len : Nat → Int32} {el mo : Nat → Int64} (h1 : ShOk s sort1 body1 size1 c1 held len el nb) (h3 : ShOk t sort3 body3 size3 c3 held len el nb) (p2 p4 p5 : Int32) :
    ∃ r c' el' mo', shiftC sort1 size1 sort3 size3 c1 c3 (I s) p2 (I t) p4 p5 = some (r, c') ∧ x9_shift el held len mo (I s) p2 (I t) p4 p5 = some (r, el', mo') ∧ ShOk t sort3 body3 size3 c' held len el' nb ∧ ∀ u, u ≠ t → ∀ k, k < 60 → el' (60 * u + k) = el (60 * u + k) := by
  obtain ⟨i1, i2, i3, i4⟩ := shI hs
  obtain ⟨j1, j2, j3, j4⟩ := shI ht
  unfold shiftC x9_shift
  rw [i1, i2, i3, i4, j1, j2, j3, j4, isRowI hs, Option.bind_some, Option.bind_some, Option.bind_some, Option.bind_some, bif_t, bif_t, bif_t, bif_t]
  have h1' := h1
  have h3' := h3
  rcases h1' with ⟨rfl, a2⟩ | ⟨rfl, b, a2, rfl, a4⟩ | ⟨q, hq, rfl, a3, n, hn, rfl, a6, a7⟩
  · rw [a2, if_pos rfl, show x5_holdsNothing (-1) = some true by decide]
    exact ⟨-11, _, _, _, rfl, rfl, h3, fun _ _ _ _ => rfl⟩
  · obtain ⟨b1, b2, _⟩ := negb (b := b) (by omega)
    rw [a4, if_neg b1, decide_eq_false (fun h => h b2), show x5_holdsNothing 5 = some false by decide, show x5_holdsRow 5 = some false by decide, Option.bind_some, bif_f]
    rcases h3' with ⟨rfl, d2⟩ | ⟨rfl, d, d2, rfl, d4⟩ | ⟨r, hr, rfl, d3, m, hm, rfl, d6, d7⟩
    · rw [d2, if_pos rfl, show x5_holdsNothing (-1) = some true by decide]
      exact ⟨-11, _, _, _, rfl, rfl, h3, fun _ _ _ _ => rfl⟩
    · obtain ⟨e1, e2, _⟩ := negb (b := d) (by omega)
      rw [d4, if_neg e1, show x5_holdsNothing 5 = some false by decide]
      exact ⟨-12, _, _, _, rfl, rfl, h3, fun _ _ _ _ => rfl⟩
    · obtain ⟨e1, _⟩ := negq hr
      rw [d3, if_neg e1, (rowFacts hr).1]
      exact ⟨-12, _, _, _, rfl, rfl, h3, fun _ _ _ _ => rfl⟩
  · obtain ⟨n1, n2, n3, n4, n5, n6, n7⟩ := negq hq
    obtain ⟨f1, f2⟩ := rowFacts hq
    rw [a3, if_neg n1, decide_eq_true n2, f1, f2, Option.bind_some, bif_f]
    rcases h3' with ⟨rfl, d2⟩ | ⟨rfl, d, d2, rfl, d4⟩ | ⟨r, hr, rfl, d3, m, hm, rfl, d6, d7⟩
    · rw [d2, if_pos rfl, show x5_holdsNothing (-1) = some true by decide]
      exact ⟨-11, _, _, _, rfl, rfl, h3, fun _ _ _ _ => rfl⟩
    · obtain ⟨e1, e2, _⟩ := negb (b := d) (by omega)
      have hro : x5_holdsRowOf 5 (I q) = some false := by unfold x5_holdsRowOf; rw [show x5_holdsRow 5 = some false by decide]; rfl
      rw [d4, if_neg e1, show x5_holdsNothing 5 = some false by decide, hro, if_neg (subb hq (by omega))]
      exact ⟨-12, _, _, _, rfl, rfl, h3, fun _ _ _ _ => rfl⟩
    · obtain ⟨e1, _⟩ := negq hr
      have hro : x5_holdsRowOf (I r) (I q) = some (decide (q = r)) := by
        unfold x5_holdsRowOf
        rw [(rowFacts hr).2, Option.bind_some, bif_t]
        by_cases w : q = r
        · rw [if_pos (by rw [w]), decide_eq_true w]
        · rw [if_neg (by rw [I_eq (by omega) (by omega)]; exact fun h => w h.symm), decide_eq_false w]
      rw [d3, if_neg e1, (rowFacts hr).1, hro, Option.bind_some, Option.bind_some, Option.bind_some, Option.bind_some, bif_f, bif_t, bif_t]
      by_cases w : q = r
      · subst w
        rw [decide_eq_true rfl, bif_t, if_pos rfl, a6, d6]
        rcases cellsN hq hn p2 p5 with ⟨i, c, hic, rfl, rfl, g1⟩ | ⟨g1, g2⟩
        · have hc0 : ¬ (I c < 0) := by show ¬ (I c < I 0); rw [I_lt (by omega) (by omega)]; omega
          have hi0 : ¬ (I i < 0) := by show ¬ (I i < I 0); rw [I_lt (by omega) (by omega)]; omega
          have es : (I n - I c : Int32) = I (n - c) := I_sub (by omega)
          rw [g1, Option.bind_some, bif_t, if_neg hc0, if_neg hi0, es, if_neg (show ¬ (I (n - c) < I i) by rw [I_lt (by omega) (by omega)]; omega)]
          rcases cellsN hq hm p4 (I c) with ⟨j, c', hjc, rfl, hcc, k1⟩ | ⟨k1, k2⟩
          · have hcc' : c = c' := I_inj (by omega) (by omega) hcc
            subst hcc'
            have hj0 : ¬ (I j < 0) := by show ¬ (I j < I 0); rw [I_lt (by omega) (by omega)]; omega
            have et : (I m - I c : Int32) = I (m - c) := I_sub (by omega)
            obtain ⟨el', mo', x1, x2⟩ := sh114 hs (show i + c ≤ 60 by omega) ht (show j + c ≤ 60 by omega) held len el c yN 0 mo (by omega) (by unfold yN; omega) (fun x hx => absurd hx (Nat.not_lt_zero _))
            have x1' : x9_shift_114 el held len (I s) (I i) (I t) (I j) (I c) yN mo 0 = some (I c, el', mo') := x1
            have hok : okC (I i) (I j) (I c) 60 60 = true := by
              unfold okC
              rw [decide_eq_false hi0, decide_eq_false hj0, decide_eq_false hc0, I_clamp (by omega), I_clamp (by omega), I_clamp (by omega), decide_eq_true (by omega : i + c ≤ 60), decide_eq_true (by omega : j + c ≤ 60)]; rfl
            rw [k1, Option.bind_some, bif_t, hok, bif_t, if_neg hj0, et, if_pos (by rw [I_le (by omega) (by omega)]; omega), x1', I_clamp (n := i) (by omega), I_clamp (n := j) (by omega), I_clamp (n := c) (by omega)]
            refine ⟨_, _, _, _, rfl, rfl, Or.inr (Or.inr ⟨q, hq, rfl, d3, m, hm, rfl, d6, fun k hk => ?_⟩), fun u hu k hk => ?_⟩
            · rw [x2]
              unfold va_cpy
              by_cases y : j ≤ k ∧ k < j + c
              · rw [if_pos y, if_pos (by omega), a7 _ (by omega)]; congr 1; omega
              · rw [if_neg y, if_neg (by omega)]; exact d7 k hk
            · rw [x2, if_neg (by omega)]
          · rw [k1, Option.bind_some, bif_f]
            rcases k2 with k2 | k2 | ⟨_, k2, k3⟩
            · exact absurd k2 hc0
            · rw [if_pos k2]; exact ⟨-13, _, _, _, rfl, rfl, h3, fun _ _ _ _ => rfl⟩
            · rw [if_neg k2, if_neg (by rw [Int32.not_le]; exact k3)]
              exact ⟨-13, _, _, _, rfl, rfl, h3, fun _ _ _ _ => rfl⟩
        · rw [g1, Option.bind_some, bif_f]
          rcases g2 with g2 | g2 | ⟨g2, g3, g4⟩
          · rw [if_pos g2]; exact ⟨-13, _, _, _, rfl, rfl, h3, fun _ _ _ _ => rfl⟩
          · rw [if_pos g2]
            split <;> exact ⟨-13, _, _, _, rfl, rfl, h3, fun _ _ _ _ => rfl⟩
          · rw [if_neg g2, if_neg g3, if_pos g4]
            split <;> exact ⟨-13, _, _, _, rfl, rfl, h3, fun _ _ _ _ => rfl⟩
      · rw [decide_eq_false w, bif_f, if_neg (fun h => w ((subq hq hr).mp h))]
        exact ⟨-12, _, _, _, rfl, rfl, h3, fun _ _ _ _ => rfl⟩
theorem shift_ii_eq (a b c d : Int32) (e f : Nat → Int64) (p1 p2 p3 p4 p5 : Int32) : x8_shift_ii a b c d e f p1 p2 p3 p4 p5 = shiftC a b c d e f p1 p2 p3 p4 p5 := rfl
theorem shift_is_eq (a b : Int32) (e : Nat → Int64) (p1 p2 p3 p4 p5 : Int32) : x8_shift_is a b e p1 p2 p3 p4 p5 = shiftC a b a b e e p1 p2 p3 p4 p5 := rfl
/-- roads from a row -/
theorem roads53 {s P n : Nat} (hs : s < 6) (hP : P ≤ 8) (hn : n ≤ 60) {cells : Nat → Int64} {held len : Nat → Int32} {el : Nat → Int64} (hlen : len s = I n) (hel : ∀ k, k < n → cells k = el (60 * s + k)) {w : Nat} (hw : w ≤ 15) :
    ∀ m f c R p (danger flow frm ln to : Nat → Int32), c + m = w → m < f → R ≤ 16 → RoadsOk P R danger flow frm ln to →
      ∃ r R' da fl fr le t, x8_roads_i_53 (I 1) (I n) cells (I P) (I w) f (I R) danger flow frm ln to (I c) p = some (r, I R', da, fl, fr, le, t) ∧ x9_roads_53 (I P) el held len (I s) (I w) f (I R) flow ln to frm danger (I c) p = some (r, I R', fl, le, t, fr, da) ∧ R ≤ R' ∧ R' ≤ 16 ∧ RoadsOk P R' da fl fr le t := by
  obtain ⟨i1, i2, i3, i4⟩ := shI hs
  intro m
  induction m with
  | zero =>
    intro f c R p danger flow frm ln to hc hf hR hro
    obtain ⟨f, rfl⟩ : ∃ k, f = k + 1 := ⟨f - 1, by omega⟩
    exact ⟨_, R, _, _, _, _, _, by rw [x8_roads_i_53, if_pos (by rw [I_le (by omega) (by omega)]; omega)], by rw [x9_roads_53, if_pos (by rw [I_le (by omega) (by omega)]; omega)], Nat.le_refl _, hR, hro⟩
  | succ m ih =>
    intro f c R p danger flow frm ln to hc hf hR hro
    obtain ⟨f, rfl⟩ : ∃ k, f = k + 1 := ⟨f - 1, by omega⟩
    rw [x8_roads_i_53, if_neg (by rw [I_le (by omega) (by omega)]; omega), x9_roads_53, if_neg (by rw [I_le (by omega) (by omega)]; omega), i3, i4, hlen]
    rcases cellsC (q := 1) (c := 4) (by omega) hn (by omega) p with ⟨k, hk, rfl, g1, g2⟩ | ⟨g1, g2⟩
    · have g1' : x5_holdsCells (I 1) (I n) (I k) 4 = some true := g1
      have g2' : x9_within (I k) 0 (I n - 4) = some true := g2
      have cell : ∀ j, j < n → x5_cell (I 1) (I n) cells (I j) = some (cells j) := by
        intro j hj
        rcases cellsC (q := 1) (c := 1) (by omega) hn (by omega) (I j) with ⟨j', hj', _, c1, _⟩ | ⟨c1, c2⟩
        · have c1' : x5_holdsCells (I 1) (I n) (I j) 1 = some true := c1
          unfold x5_cell
          rw [c1', Option.bind_some, bif_t, I_inB (by omega), decide_eq_true (by omega : j < 60), bif_t, I_clamp (by omega)]
        · exfalso
          unfold x9_within at c2
          rw [if_neg (by show ¬ (I j < I 0); rw [I_lt (by omega) (by omega)]; omega), I_sub (by omega), if_neg (by rw [I_lt (by omega) (by omega)]; omega)] at c2
          cases c2
      have num : ∀ j, j < n → x9_number el len (I s) (I j) = some ((cells j).toInt32) := by
        intro j hj
        have e : (60 : Int32) * I s + I j = I (60 * s + j) := by show I 60 * I s + I j = _; rw [I_mul, I_add]
        unfold x9_number
        rw [i3, i4, bif_t, hlen, if_neg (by rw [I_le (by omega) (by omega)]; omega), e, I_inB (by omega), decide_eq_true (by omega : 60 * s + j < 360), bif_t, I_clamp (by omega), hel j hj]
      have e1 : I k + 1 = I (k + 1) := I_add k 1
      have e2 : I k + 2 = I (k + 2) := I_add k 2
      have e3 : I k + 3 = I (k + 3) := I_add k 3
      obtain ⟨a, R', da, fl, fr, le, t, b1, b2, b3, b4, b5⟩ := m_addRoad hP hR hro (cells k).toInt32 (cells (k + 1)).toInt32 (cells (k + 2)).toInt32 (cells (k + 3)).toInt32
      rw [g1', Option.bind_some, bif_t, e1, e2, e3, cell k (by omega), cell (k + 1) (by omega), cell (k + 2) (by omega), cell (k + 3) (by omega), Option.bind_some, Option.bind_some, Option.bind_some, Option.bind_some, b1, Option.bind_some]
      by_cases h16 : R = 16
      · have ha : ¬ (0 : Int32) ≤ a := by
          rcases b5 with ⟨_, _, q, _⟩ | ⟨_, _, _, q, _⟩ | ⟨_, q, _⟩
          · rw [q]; decide
          · rw [q]; decide
          · omega
        have hun : R' = R ∧ da = danger ∧ fl = flow ∧ fr = frm ∧ le = ln ∧ t = to := by
          rcases b5 with ⟨_, q1, _, q2⟩ | ⟨_, _, q1, _, q2⟩ | ⟨_, q, _⟩
          · exact ⟨q1, q2⟩
          · exact ⟨q1, q2⟩
          · omega
        obtain ⟨rfl, rfl, rfl, rfl, rfl, rfl⟩ := hun
        rw [if_neg ha, if_pos (by rw [h16]; decide)]
        exact ⟨_, _, _, _, _, _, _, rfl, rfl, Nat.le_refl _, hR, hro⟩
      · have n16 : ¬ ((16 : Int32) ≤ I R) := by show ¬ (I 16 ≤ I R); rw [I_le (by omega) (by omega)]; omega
        have n0 : (0 : Int32) ≤ I R := by show I 0 ≤ I R; rw [I_le (by omega) (by omega)]; omega
        rw [if_neg n16, bif_t, g2', Option.bind_some, bif_t, num k (by omega), num (k + 1) (by omega), num (k + 2) (by omega), num (k + 3) (by omega), Option.bind_some, Option.bind_some, Option.bind_some, Option.bind_some]
        rcases b5 with ⟨q0, rfl, rfl, rfl, rfl, rfl, rfl, rfl⟩ | ⟨_, q, _⟩ | ⟨q0, q1, rfl, rfl, q2⟩
        · dsimp only
          rw [if_neg (show ¬ ((0 : Int32) ≤ -1) by decide), q0, Option.bind_some, bif_f]
          exact ⟨_, _, _, _, _, _, _, rfl, rfl, Nat.le_refl _, hR, hro⟩
        · exact absurd q h16
        · dsimp only
          rw [if_pos n0, q0, Option.bind_some, bif_t, Option.bind_some, Option.bind_some, Option.bind_some, Option.bind_some, q2, Option.bind_some, I_succ]
          obtain ⟨r, R2, da2, fl2, fr2, le2, t2, z1, z2, z3, z4, z5⟩ := ih f (c + 1) (R + 1) (I k + 4) da fl fr le t (by omega) (by omega) b3 b4
          exact ⟨r, R2, da2, fl2, fr2, le2, t2, z1, z2, by omega, z4, z5⟩
    · have g1' : x5_holdsCells (I 1) (I n) p 4 = some false := g1
      have g2' : x9_within p 0 (I n - 4) = some false := g2
      rw [g1', g2', Option.bind_some, Option.bind_some, bif_f, bif_f, bif_t]
      split
      · exact ⟨_, _, _, _, _, _, _, rfl, rfl, Nat.le_refl _, hR, hro⟩
      · exact ⟨_, _, _, _, _, _, _, rfl, rfl, Nat.le_refl _, hR, hro⟩
theorem m_roads {s P R nb : Nat} (hs : s < 6) (hP : P ≤ 8) (hR : R ≤ 16) (hnb : nb ≤ 50) {danger flow frm ln to : Nat → Int32} (hro : RoadsOk P R danger flow frm ln to) {sort body size : Int32} {cells : Nat → Int64} {held len : Nat → Int32} {el : Nat → Int64} (h : ShOk s sort body size cells held len el nb) (p w : Int32) :
    ∃ r R' da fl fr le t, x8_roads_i sort size cells (I P) (I R) danger flow frm ln to (I s) p w = some (r, I R', da, fl, fr, le, t) ∧ x9_roads (I P) (I R) el flow held ln to frm len danger (I s) p w = some (r, I R', fl, le, t, fr, da) ∧ R ≤ R' ∧ R' ≤ 16 ∧ RoadsOk P R' da fl fr le t := by
  obtain ⟨i1, i2, i3, i4⟩ := shI hs
  unfold x8_roads_i x9_roads x9_within
  rw [i1, i2, i3, i4, Option.bind_some, Option.bind_some, bif_t]
  by_cases q1 : w < 1
  · rw [if_pos q1, if_pos q1]; exact ⟨_, _, _, _, _, _, _, rfl, rfl, Nat.le_refl _, hR, hro⟩
  · rw [if_neg q1, if_neg q1]
    by_cases q2 : 15 < w
    · rw [if_pos q2, if_neg (by rw [Int32.not_le]; exact q2)]; exact ⟨_, _, _, _, _, _, _, rfl, rfl, Nat.le_refl _, hR, hro⟩
    · obtain ⟨v, _, hv, rfl⟩ := In_of (v := w) (a := 1) (b := 15) (by omega) (by omega) q1 q2
      rw [if_neg q2, if_pos (by rw [← Int32.not_lt]; exact q2), Option.bind_some, bif_t, bif_t, bif_t]
      rcases h with ⟨rfl, a2⟩ | ⟨rfl, b, a2, rfl, a4⟩ | ⟨q, hq, rfl, a3, n, hn, rfl, a6, a7⟩
      · rw [a2, if_pos rfl, show x5_holdsNothing (-1) = some true by decide]
        exact ⟨_, _, _, _, _, _, _, rfl, rfl, Nat.le_refl _, hR, hro⟩
      · obtain ⟨b1, b2, _⟩ := negb (b := b) (by omega)
        have b3 : I b ≠ -3 := by
          intro h
          rw [h] at b2
          exact absurd b2 (by decide)
        rw [a4, if_neg b1, if_neg b3, show x5_holdsNothing 5 = some false by decide, show x5_holdsRowOf 5 1 = some false by decide]
        exact ⟨_, _, _, _, _, _, _, rfl, rfl, Nat.le_refl _, hR, hro⟩
      · obtain ⟨n1, _⟩ := negq hq
        rw [a3, if_neg n1, (rowFacts hq).1, Option.bind_some, bif_f]
        by_cases w1 : q = 1
        · subst w1
          rw [if_pos (by decide), show x5_holdsRowOf (I 1) 1 = some true by decide, Option.bind_some, bif_t]
          exact roads53 hs hP hn a6 a7 hv v yN 0 R p danger flow frm ln to (by omega) (by unfold yN; omega) hR hro
        · have : q = 0 ∨ q = 2 ∨ q = 3 ∨ q = 4 := by omega
          have f1 : x5_holdsRowOf (I q) 1 = some false ∧ (-2 - I q : Int32) ≠ -3 := by
            rcases this with h | h | h | h <;> subst h <;> decide
          rw [f1.1, if_neg f1.2]
          exact ⟨_, _, _, _, _, _, _, rfl, rfl, Nat.le_refl _, hR, hro⟩

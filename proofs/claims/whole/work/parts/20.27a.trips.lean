/-! the calls that ask a trip -/
theorem min_is (p : Int32) : ∃ b, x8_isMinute p = some b ∧ x9_isMinute p = some b ∧ (b = true → ∃ t, t < 1440 ∧ p = I t) := by
  unfold x8_isMinute x9_isMinute x9_within
  by_cases q1 : p < 0
  · rw [if_pos q1, if_pos q1]; exact ⟨false, rfl, rfl, fun h => by cases h⟩
  · rw [if_neg q1, if_neg q1]
    by_cases q2 : (1439 : Int32) < p
    · rw [if_pos q2, if_pos (show (1440 : Int32) ≤ p by
        rw [Int32.lt_iff_toInt_lt] at q2
        rw [Int32.le_iff_toInt_le]
        have : (1439 : Int32).toInt = 1439 := by decide
        have : (1440 : Int32).toInt = 1440 := by decide
        omega)]
      exact ⟨false, rfl, rfl, fun h => by cases h⟩
    · obtain ⟨t, _, ht, rfl⟩ := In_of (v := p) (a := 0) (b := 1439) (by omega) (by omega) q1 q2
      rw [if_neg q2, if_neg (by show ¬ (I 1440 ≤ I t); rw [I_le (by omega) (by omega)]; omega)]
      exact ⟨true, rfl, rfl, fun _ => ⟨t, by omega, rfl⟩⟩
theorem rem0 {n : Nat} (hn : n < 2147483648) : I n - I n / 10000 * 10000 = I (n % 10000) := I_rem (b := 10000) hn (by omega)
theorem div0 {n : Nat} (hn : n < 2147483648) : I n / 10000 = I (n / 10000) := I_div (b := 10000) hn (by omega)
theorem moment_is {P : Nat} (hP : P ≤ 8) (p : Int32) : ∃ b, x8_isMoment (I P) p = some b ∧ x9_isTime (I P) p = some b ∧ (b = true → ∃ u t, u < P ∧ t < 1440 ∧ p / 10000 = I u ∧ p - p / 10000 * 10000 = I t) := by
  unfold x8_isMoment x9_isTime
  by_cases q1 : p < 0
  · rw [if_pos q1, if_pos q1]; exact ⟨false, rfl, rfl, fun h => by cases h⟩
  · rw [if_neg q1, if_neg q1]
    rcases hasPlace_is hP (p / 10000) with ⟨e1, e2, u, hu, e3⟩ | ⟨e1, e2⟩
    · obtain ⟨b, e4, e5, h5⟩ := min_is (p - p / 10000 * 10000)
      rw [e1, e2, Option.bind_some, Option.bind_some, bif_t, bif_t, e4, e5, Option.bind_some]
      cases b
      · exact ⟨false, rfl, rfl, fun h => by cases h⟩
      · obtain ⟨t, ht, e6⟩ := h5 rfl
        exact ⟨true, rfl, rfl, fun _ => ⟨u, t, hu, ht, e3, e6⟩⟩
    · rw [e1, e2]; exact ⟨false, rfl, rfl, fun h => by cases h⟩
theorem seeds_is (p : Int32) : ∃ b, x8_isSeeds p = some b ∧ x9_within p 1 40 = some b ∧ (b = true → ∃ n, 1 ≤ n ∧ n ≤ 40 ∧ p = I n) := by
  unfold x8_isSeeds x9_within
  by_cases q1 : p < 1
  · rw [if_pos q1]; exact ⟨false, rfl, rfl, fun h => by cases h⟩
  · rw [if_neg q1]
    by_cases q2 : (40 : Int32) < p
    · rw [if_pos q2]; exact ⟨false, rfl, rfl, fun h => by cases h⟩
    · obtain ⟨t, h1, ht, rfl⟩ := In_of (v := p) (a := 1) (b := 40) (by omega) (by omega) q1 q2
      rw [if_neg q2]; exact ⟨true, rfl, rfl, fun _ => ⟨t, h1, ht, rfl⟩⟩
/-- one of none .. b -/
theorem upto_is (p : Int32) (b : Nat) (hb : b < 2147483648) : (x9_within p 0 (I b) = some false ∧ (p < 0 ∨ (¬ p < 0 ∧ ¬ p ≤ I b))) ∨ (∃ k, k ≤ b ∧ p = I k ∧ x9_within p 0 (I b) = some true ∧ ¬ p < 0 ∧ p ≤ I b) := by
  unfold x9_within
  by_cases q1 : p < 0
  · rw [if_pos q1]; exact Or.inl ⟨rfl, Or.inl q1⟩
  · rw [if_neg q1]
    by_cases q2 : I b < p
    · rw [if_pos q2]; exact Or.inl ⟨rfl, Or.inr ⟨q1, by rw [Int32.not_le]; exact q2⟩⟩
    · obtain ⟨t, _, ht, e⟩ := In_of (v := p) (a := 0) (b := b) (by omega) hb q1 q2
      rw [if_neg q2]; exact Or.inr ⟨t, ht, e, rfl, q1, by rw [← Int32.not_lt]; exact q2⟩
theorem orNot_is {r : Option Nat} (h : ∀ t, r = some t → t < 100000) : x8_orNot (never r) = some (notR r) := by
  cases r with
  | none => decide
  | some t =>
    have := h t rfl
    unfold x8_orNot never notR
    rw [if_neg (show ¬ (I t = 2147483647) by
      show ¬ (I t = I 2147483647)
      rw [I_eq (by omega) (by omega)]; omega)]
theorem never_no {r : Option Nat} (h : ∀ t, r = some t → t < 100000) : never r = 2147483647 ↔ r = none := by
  cases r with
  | none => exact ⟨fun _ => rfl, fun _ => rfl⟩
  | some t =>
    have := h t rfl
    refine ⟨fun e => ?_, fun e => by cases e⟩
    have e' : I t = I 2147483647 := e
    rw [I_eq (by omega) (by omega)] at e'; omega
/-- rounds of what is kept -/
def Rd (r : Nat) (round : Int32) (rounds : Nat → Int32) : Prop := ∃ q, q ≤ r ∧ round = I q ∧ ∀ j, j < 384 → ∃ m, m ≤ q ∧ rounds j = I m
theorem Rd.mono {r s : Nat} {round : Int32} {rounds : Nat → Int32} (h : Rd r round rounds) (hs : r ≤ s) : Rd s round rounds := by
  obtain ⟨q, h1, h2, h3⟩ := h
  exact ⟨q, by omega, h2, h3⟩
theorem Rd.of {r : Nat} {round : Int32} {rounds rounds' : Nat → Int32} (h : Rd r round rounds) (hr : r < 100000) (h' : RB round rounds') : Rd r round rounds' := by
  obtain ⟨q, h1, rfl, h3⟩ := h
  obtain ⟨q', e, h4, h5⟩ := h'
  rw [I_eq (by omega) (by omega)] at e
  subst e
  exact ⟨q, h1, rfl, h5⟩
theorem Rd.rb {r : Nat} {round : Int32} {rounds : Nat → Int32} (h : Rd r round rounds) (hr : r < 100000) : RB round rounds := by
  obtain ⟨q, h1, rfl, h3⟩ := h
  exact ⟨q, rfl, by omega, h3⟩
theorem Rd.forget {r : Nat} {round : Int32} {rounds : Nat → Int32} (h : Rd r round rounds) (hr : r + 1 < 100000) : Rd (r + 1) (round + 1) rounds ∧ ∀ values V, CacheOk (round + 1) rounds values V := by
  obtain ⟨q, h1, rfl, h3⟩ := h
  rw [I_succ]
  exact ⟨⟨q + 1, by omega, rfl, fun j hj => by obtain ⟨m, a, b⟩ := h3 j hj; exact ⟨m, by omega, b⟩⟩, fun values V => RB.fresh ⟨q, rfl, by omega, h3⟩ (by omega) values V⟩
theorem lowterms : ∀ w, w < 41 → ∀ n, n < 41 → ∀ k, k < 2 → (n = 0 ∨ n < w ∨ (x8_lowestTerms (I w) (I n) (I k) = x9_lowest (I w) (I n) (I k) ∧ (x9_lowest (I w) (I n) (I k)).isSome = true)) := by decide +kernel
section trip
variable {P R : Nat} {A : Nat → Nat → Int32}
theorem car_is (h : LandOk P R A) (p1 p2 : Int32) : (∃ x j, x < R ∧ j < 24 * Nn (A 4) x ∧ p1 = I x ∧ p2 = I j ∧ x3_hasCar (I R) (A 4) p1 p2 = some true ∧ x9_isRoad (I R) p1 = some true ∧ inB p1 16 = true ∧ x9_within p2 0 (24 * A 4 p1.toNatClampNeg - 1) = some true) ∨ (x3_hasCar (I R) (A 4) p1 p2 = some false ∧ (x9_isRoad (I R) p1 = some false ∨ (x9_isRoad (I R) p1 = some true ∧ inB p1 16 = true ∧ x9_within p2 0 (24 * A 4 p1.toNatClampNeg - 1) = some false))) := by
  have hR := h.2.1
  unfold x3_hasCar
  rcases hasRoad_is hR p1 with ⟨e1, e2, x, hx, rfl⟩ | ⟨e1, e2⟩
  · obtain ⟨_, ⟨e4, l4, l4'⟩, _⟩ := h.r hx
    have i := in16 h hx
    have e5 : (24 : Int32) * A 4 x - 1 = I (24 * Nn (A 4) x - 1) := by
      rw [e4]; show I 24 * I _ - 1 = _; rw [I_mul, I_pred (by omega)]
    rw [e1, e2, Option.bind_some, bif_t, carsI h hx, Option.bind_some, i, I_clamp (by omega), e5]
    rcases I_or p2 with ⟨j, hj, rfl⟩ | hn
    · rw [if_neg (by show ¬ (I j < I 0); rw [I_lt (by omega) (by omega)]; omega)]
      have e6 : x9_within (I j) 0 (I (24 * Nn (A 4) x - 1)) = some (decide (0 ≤ j ∧ j ≤ 24 * Nn (A 4) x - 1)) := within_I (a := 0) hj (by omega) (by omega)
      rw [e6]
      by_cases w : j < 24 * Nn (A 4) x
      · rw [if_neg (by rw [I_le (by omega) (by omega)]; omega), decide_eq_true (by omega)]
        exact Or.inl ⟨x, j, hx, w, rfl, rfl, rfl, rfl, rfl, rfl⟩
      · rw [if_pos (by rw [I_le (by omega) (by omega)]; omega), decide_eq_false (by omega)]
        exact Or.inr ⟨rfl, Or.inr ⟨rfl, rfl, rfl⟩⟩
    · rw [if_pos hn]
      unfold x9_within
      rw [if_pos hn]
      exact Or.inr ⟨rfl, Or.inr ⟨rfl, rfl, rfl⟩⟩
  · rw [e1, e2]; exact Or.inr ⟨rfl, Or.inl rfl⟩
theorem m_isStopping (h : LandOk P R A) {pe we sg seed : Int32} (hpe : In pe 1 2) {nul : Bool} {size : Int32} {steps : Nat → Int32} {lw : Option Prog} (hlw : LwC nul size steps lw) {round : Int32} {rounds values : Nat → Int32} (hC : CacheOk round rounds values (bV A pe we sg lw)) {x j : Nat} (hx : x < R) (hj : j < 24 * Nn (A 4) x) (fa stk : Nat → Int32) :
    ∃ fa' rounds' values' stk', x7_isStopping nul pe we sg seed round fa size rounds values (A 6) (A 4) (A 2) (A 1) (A 0) (A 3) stk steps (I x) (I j) = some (decide (drw seed (I x) (I j) < bV A pe we sg lw x (60 * j / Nn (A 4) x / 60)), fa', rounds', values', stk') ∧ CacheOk round rounds' values' (bV A pe we sg lw) := by
  obtain ⟨_, ⟨e4, l4, l4'⟩, _⟩ := h.r hx
  have hm : 60 * j / Nn (A 4) x < 1440 := by
    rw [Nat.div_lt_iff_lt_mul (by omega)]; omega
  unfold x7_isStopping
  rw [x7draw, passI h hx (by omega), Option.bind_some, Option.bind_some, show I (60 * j / Nn (A 4) x) / 60 = I (60 * j / Nn (A 4) x / 60) from I_div (b := 60) (by omega) (by omega)]
  obtain ⟨fa', rounds', values', stk', e, hc⟩ := m_bar h hpe hlw hC hx (show 60 * j / Nn (A 4) x / 60 < 24 by omega) fa stk
  rw [e, Option.bind_some]
  by_cases w : bV A pe we sg lw x (60 * j / Nn (A 4) x / 60) ≤ drw seed (I x) (I j)
  · rw [if_pos w, decide_eq_false (by rw [Int32.not_lt]; exact w)]; exact ⟨_, _, _, _, rfl, hc⟩
  · rw [if_neg w, decide_eq_true (by rw [← Int32.not_le]; exact w)]; exact ⟨_, _, _, _, rfl, hc⟩
end trip

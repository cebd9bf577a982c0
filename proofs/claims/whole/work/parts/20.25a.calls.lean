/-! calls that ask and set -/
theorem I_inj {a b : Nat} (ha : a < 2147483648) (hb : b < 2147483648) (h : I a = I b) : a = b := (I_eq ha hb).mp h
/-- walks -/
def FootOk (x m : Nat → Int32) : Prop := m = x ∧ (∀ j, In (x j) 0 300) ∧ ∀ p, p < 8 → x (9 * p) = I 0
theorem m_walk {P : Nat} (hP : P ≤ 8) {x m : Nat → Int32} (h : FootOk x m) (p v : Int32) : ∃ r x' m', x8_walk (I P) x p v = some (r, x') ∧ x9_walk (I P) m p v = some (r, m') ∧ FootOk x' m' := by
  obtain ⟨rfl, h2, h3⟩ := h
  unfold x8_walk x9_walk
  rcases hasPair_is hP p with ⟨e1, e2, n, hn, rfl, hn1, hn2⟩ | ⟨e1, e2⟩
  · have q1 : I n / 10 = I (n / 10) := I_div (b := 10) hn (by omega)
    have q2 : I n - I n / 10 * 10 = I (n % 10) := I_rem (b := 10) hn (by omega)
    rw [e1, e2, Option.bind_some, Option.bind_some, bif_t, bif_t, q2, q1]
    by_cases hq : I (n / 10) = I (n % 10)
    · rw [if_pos hq, if_pos hq]; exact ⟨-1, _, _, rfl, rfl, rfl, h2, h3⟩
    · have hq' : n / 10 ≠ n % 10 := fun h => hq (by rw [h])
      rw [if_neg hq, if_neg hq]
      by_cases h4 : v < 0
      · rw [if_pos h4, x9_within, if_pos h4]; exact ⟨-1, _, _, rfl, rfl, rfl, h2, h3⟩
      · rw [if_neg h4, x9_within, if_neg h4]
        by_cases h5 : 300 < v
        · rw [if_pos h5, if_neg (by rw [Int32.not_le]; exact h5)]; exact ⟨-1, _, _, rfl, rfl, rfl, h2, h3⟩
        · have hv := In_of (v := v) (a := 0) (b := 300) (by omega) (by omega) h4 h5
          rw [if_neg h5, if_pos (by rw [← Int32.not_lt]; exact h5), Option.bind_some, bif_t]
          have e5 : I (n / 10) * 8 + I (n % 10) = I (8 * (n / 10) + n % 10) := by
            show I _ * I 8 + _ = _; rw [I_mul, I_add, Nat.mul_comm]
          have e6 : I (n % 10) * 8 + I (n / 10) = I (8 * (n % 10) + n / 10) := by
            show I _ * I 8 + _ = _; rw [I_mul, I_add, Nat.mul_comm]
          have e7 : 8 * I (n / 10) + I (n % 10) = I (8 * (n / 10) + n % 10) := by
            show I 8 * I _ + _ = _; rw [I_mul, I_add]
          have e8 : 8 * I (n % 10) + I (n / 10) = I (8 * (n % 10) + n / 10) := by
            show I 8 * I _ + _ = _; rw [I_mul, I_add]
          have i1 : inB (I (8 * (n / 10) + n % 10)) 64 = true := by rw [I_inB (by omega)]; exact decide_eq_true (by omega)
          have i2 : inB (I (8 * (n % 10) + n / 10)) 64 = true := by rw [I_inB (by omega)]; exact decide_eq_true (by omega)
          have d1 : decide (n / 10 < P) = true := decide_eq_true hn1
          have d2 : decide (n % 10 < P) = true := decide_eq_true hn2
          simp only [x3_onFoot, x3_setOnFoot, hasPlace_I hP (show n / 10 < 2147483648 by omega), hasPlace_I hP (show n % 10 < 2147483648 by omega), d1, d2, Option.bind_some, bif_t, e5, e6, e7, e8, i1, i2, I_clamp (show 8 * (n / 10) + n % 10 < 2147483648 by omega), I_clamp (show 8 * (n % 10) + n / 10 < 2147483648 by omega)]
          refine ⟨_, _, _, rfl, rfl, rfl, fun j => ?_, fun r hr => ?_⟩
          · exact In_upd (In_upd h2 hv) hv j
          · unfold upd
            rw [if_neg (by omega), if_neg (by omega)]; exact h3 r hr
  · rw [e1, e2]; exact ⟨-1, _, _, rfl, rfl, rfl, h2, h3⟩
/-- settings -/
def SetOk (s : Nat → Int32) (m2 m3 m4 m5 m6 m7 : Int32) : Prop := s 0 = m2 ∧ s 1 = m3 ∧ s 2 = m4 ∧ s 3 = m5 ∧ s 4 = m6 ∧ s 5 = m7 ∧ In m2 0 7 ∧ In m3 0 1439 ∧ In m4 1 2
theorem maySame (w v : Int32) : ∃ g : Bool, x8_maySet w v = some g ∧ x9_maySet w v = some g ∧ (g = true → ((w = 0 ∧ In v 0 7) ∨ (w = 1 ∧ In v 0 1439) ∨ (w = 2 ∧ In v 1 2) ∨ w = 3 ∨ w = 4 ∨ w = 5)) := by
  unfold x8_maySet x9_maySet x8_isMinute x9_within
  by_cases w0 : w = 0
  · rw [if_pos w0, if_pos w0]
    by_cases h1 : v < 0
    · rw [if_pos h1, if_pos h1]; exact ⟨false, rfl, rfl, fun h => by cases h⟩
    · by_cases h2 : 7 < v
      · have h3 : (8 : Int32) ≤ v := by
          rw [Int32.le_iff_toInt_le]; rw [Int32.lt_iff_toInt_lt] at h2
          have : (7 : Int32).toInt = 7 := by decide
          have : (8 : Int32).toInt = 8 := by decide
          omega
        rw [if_neg h1, if_neg h1, if_pos h2, if_pos h3]; exact ⟨false, rfl, rfl, fun h => by cases h⟩
      · have h3 : ¬ (8 : Int32) ≤ v := by
          rw [Int32.le_iff_toInt_le]; rw [Int32.lt_iff_toInt_lt] at h2
          have : (7 : Int32).toInt = 7 := by decide
          have : (8 : Int32).toInt = 8 := by decide
          omega
        rw [if_neg h1, if_neg h1, if_neg h2, if_neg h3]
        exact ⟨true, rfl, rfl, fun _ => Or.inl ⟨w0, In_of (by omega) (by omega) h1 h2⟩⟩
  · rw [if_neg w0, if_neg w0]
    by_cases w1 : w = 1
    · rw [if_pos w1, if_pos w1]
      by_cases h1 : v < 0
      · rw [if_pos h1, if_pos h1]; exact ⟨false, rfl, rfl, fun h => by cases h⟩
      · by_cases h2 : 1439 < v
        · have h3 : (1440 : Int32) ≤ v := by
            rw [Int32.le_iff_toInt_le]; rw [Int32.lt_iff_toInt_lt] at h2
            have : (1439 : Int32).toInt = 1439 := by decide
            have : (1440 : Int32).toInt = 1440 := by decide
            omega
          rw [if_neg h1, if_neg h1, if_pos h2, if_pos h3]; exact ⟨false, rfl, rfl, fun h => by cases h⟩
        · have h3 : ¬ (1440 : Int32) ≤ v := by
            rw [Int32.le_iff_toInt_le]; rw [Int32.lt_iff_toInt_lt] at h2
            have : (1439 : Int32).toInt = 1439 := by decide
            have : (1440 : Int32).toInt = 1440 := by decide
            omega
          rw [if_neg h1, if_neg h1, if_neg h2, if_neg h3]
          exact ⟨true, rfl, rfl, fun _ => Or.inr (Or.inl ⟨w1, In_of (by omega) (by omega) h1 h2⟩)⟩
    · rw [if_neg w1, if_neg w1]
      have two : ∀ a b : Int32, (a.toInt + 1 = b.toInt) → (v = a ∨ v = b ↔ ¬ v < a ∧ ¬ b < v) := by
        intro a b hab
        rw [Int32.lt_iff_toInt_lt, Int32.lt_iff_toInt_lt, ← Int32.toInt_inj, ← Int32.toInt_inj]
        omega
      by_cases w2 : w = 2
      · rw [if_pos w2, if_pos w2]
        have t := two 1 2 (by decide)
        by_cases h1 : v < 1
        · rw [if_pos h1, if_neg (fun h => (t.mp (Or.inl h)).1 h1), if_neg (fun h => (t.mp (Or.inr h)).1 h1)]; exact ⟨false, rfl, rfl, fun h => by cases h⟩
        · by_cases h2 : 2 < v
          · rw [if_neg h1, if_pos h2, if_neg (fun h => (t.mp (Or.inl h)).2 h2), if_neg (fun h => (t.mp (Or.inr h)).2 h2)]; exact ⟨false, rfl, rfl, fun h => by cases h⟩
          · rw [if_neg h1, if_neg h2]
            refine ⟨true, ?_, rfl, fun _ => Or.inr (Or.inr (Or.inl ⟨w2, In_of (by omega) (by omega) h1 h2⟩))⟩
            rcases t.mpr ⟨h1, h2⟩ with h | h
            · rw [if_pos h]
            · by_cases h' : v = 1
              · rw [if_pos h']
              · rw [if_neg h', if_pos h]
      · rw [if_neg w2, if_neg w2]
        by_cases w3 : w = 3
        · rw [if_pos w3, if_pos w3]
          have t := two 0 1 (by decide)
          by_cases h1 : v < 0
          · rw [if_pos h1, if_neg (fun h => (t.mp (Or.inl h)).1 h1), if_neg (fun h => (t.mp (Or.inr h)).1 h1)]; exact ⟨false, rfl, rfl, fun h => by cases h⟩
          · by_cases h2 : 1 < v
            · rw [if_neg h1, if_pos h2, if_neg (fun h => (t.mp (Or.inl h)).2 h2), if_neg (fun h => (t.mp (Or.inr h)).2 h2)]; exact ⟨false, rfl, rfl, fun h => by cases h⟩
            · rw [if_neg h1, if_neg h2]
              refine ⟨true, ?_, rfl, fun _ => Or.inr (Or.inr (Or.inr (Or.inl w3)))⟩
              rcases t.mpr ⟨h1, h2⟩ with h | h
              · rw [if_pos h]
              · by_cases h' : v = 0
                · rw [if_pos h']
                · rw [if_neg h', if_pos h]
        · rw [if_neg w3, if_neg w3]
          by_cases w4 : w = 4
          · rw [if_pos w4, if_pos w4]
            by_cases h1 : v < -1
            · rw [if_pos h1, if_pos h1]; exact ⟨false, rfl, rfl, fun h => by cases h⟩
            · by_cases h2 : 7 < v
              · have h3 : (8 : Int32) ≤ v := by
                  rw [Int32.le_iff_toInt_le]; rw [Int32.lt_iff_toInt_lt] at h2
                  have : (7 : Int32).toInt = 7 := by decide
                  have : (8 : Int32).toInt = 8 := by decide
                  omega
                rw [if_neg h1, if_neg h1, if_pos h2, if_pos h3]; exact ⟨false, rfl, rfl, fun h => by cases h⟩
              · have h3 : ¬ (8 : Int32) ≤ v := by
                  rw [Int32.le_iff_toInt_le]; rw [Int32.lt_iff_toInt_lt] at h2
                  have : (7 : Int32).toInt = 7 := by decide
                  have : (8 : Int32).toInt = 8 := by decide
                  omega
                rw [if_neg h1, if_neg h1, if_neg h2, if_neg h3]
                exact ⟨true, rfl, rfl, fun _ => Or.inr (Or.inr (Or.inr (Or.inr (Or.inl w4))))⟩
          · rw [if_neg w4, if_neg w4]
            by_cases w5 : w = 5
            · rw [if_pos w5]; exact ⟨true, rfl, rfl, fun _ => Or.inr (Or.inr (Or.inr (Or.inr (Or.inr w5))))⟩
            · rw [if_neg w5]; exact ⟨false, rfl, rfl, fun h => by cases h⟩
theorem m_set {s : Nat → Int32} {m2 m3 m4 m5 m6 m7 : Int32} (h : SetOk s m2 m3 m4 m5 m6 m7) (w v : Int32) :
    ∃ r s' n2 n3 n4 n5 n6 n7, x8_set s w v = some (r, s') ∧ x9_set m2 m3 m4 m5 m6 m7 w v = some (r, n2, n3, n4, n5, n6, n7) ∧ SetOk s' n2 n3 n4 n5 n6 n7 := by
  obtain ⟨g, e1, e2, hg⟩ := maySame w v
  unfold x8_set x9_set
  rw [e1, e2, Option.bind_some, Option.bind_some]
  have h' := h
  obtain ⟨h0, h1, h2, h3, h4, h5, h6, h7, h8⟩ := h'
  cases g
  · exact ⟨_, s, m2, m3, m4, m5, m6, m7, rfl, rfl, h⟩
  · rw [bif_t, bif_t]
    rcases hg rfl with ⟨rfl, hv⟩ | ⟨rfl, hv⟩ | ⟨rfl, hv⟩ | rfl | rfl | rfl
    · exact ⟨s 0, upd s 0 v, v, m3, m4, m5, m6, m7, rfl, by rw [h0]; rfl, rfl, h1, h2, h3, h4, h5, hv, h7, h8⟩
    · exact ⟨s 1, upd s 1 v, m2, v, m4, m5, m6, m7, rfl, by rw [h1]; rfl, h0, rfl, h2, h3, h4, h5, h6, hv, h8⟩
    · exact ⟨s 2, upd s 2 v, m2, m3, v, m5, m6, m7, rfl, by rw [h2]; rfl, h0, h1, rfl, h3, h4, h5, h6, h7, hv⟩
    · exact ⟨s 3, upd s 3 v, m2, m3, m4, v, m6, m7, rfl, by rw [h3]; rfl, h0, h1, h2, rfl, h4, h5, h6, h7, h8⟩
    · exact ⟨s 4, upd s 4 v, m2, m3, m4, m5, v, m7, rfl, by rw [h4]; rfl, h0, h1, h2, h3, rfl, h5, h6, h7, h8⟩
    · exact ⟨s 5, upd s 5 v, m2, m3, m4, m5, m6, v, rfl, by rw [h5]; rfl, h0, h1, h2, h3, h4, rfl, h6, h7, h8⟩
/-- the tape -/
def TapeOk (x0 m12 : Int32) (x m : Nat → Int32) : Prop := ∃ f, f ≤ 120 ∧ x0 = I f ∧ m12 = I f ∧ m = x ∧ ∀ j, ∃ b, b ≤ 255 ∧ x j = I b
theorem m_feed {x0 m12 : Int32} {x m : Nat → Int32} (h : TapeOk x0 m12 x m) (p : Int32) : ∃ r a x' b m', x8_feed x0 x p = some (r, a, x') ∧ x9_feed m12 m p = some (r, b, m') ∧ TapeOk a b x' m' := by
  have h' := h
  obtain ⟨f, hf, rfl, rfl, rfl, hb⟩ := h'
  unfold x8_feed x9_feed x9_within
  by_cases h1 : p < 0
  · rw [if_pos h1, if_pos h1]; exact ⟨-1, _, _, _, _, rfl, rfl, h⟩
  · rw [if_neg h1, if_neg h1]
    by_cases h2 : 255 < p
    · rw [if_pos h2, if_neg (by rw [Int32.not_le]; exact h2)]; exact ⟨-1, _, _, _, _, rfl, rfl, h⟩
    · obtain ⟨b, _, hb2, hp⟩ := In_of (v := p) (a := 0) (b := 255) (by omega) (by omega) h1 h2
      rw [if_neg h2, if_pos (by rw [← Int32.not_lt]; exact h2), Option.bind_some, bif_t, if_neg (by show ¬ (I f < I 0); rw [I_lt (by omega) (by omega)]; omega)]
      by_cases h3 : f = 120
      · rw [if_neg (by show ¬ (I f < I 120); rw [I_lt (by omega) (by omega)]; omega), if_pos (by rw [h3]; rfl)]
        exact ⟨-3, _, _, _, _, rfl, rfl, h⟩
      · rw [if_pos (by show I f < I 120; rw [I_lt (by omega) (by omega)]; omega), if_neg (by show ¬ (I f = I 120); rw [I_eq (by omega) (by omega)]; exact h3), I_inB (by omega), decide_eq_true (by omega : f < 120), bif_t, I_succ, I_clamp (by omega)]
        refine ⟨_, _, _, _, _, rfl, rfl, f + 1, by omega, rfl, rfl, rfl, fun j => ?_⟩
        unfold upd
        split
        · exact ⟨b, hb2, hp⟩
        · exact hb j
/-- of -/
theorem m_of {P R : Nat} {A : Nat → Nat → Int32} (h : LandOk P R A) (k w : Int32) : ∃ r, x8_of (I P) (I R) (A 6) (A 4) (A 2) (A 5) (A 1) (A 0) (A 3) k w = some r ∧ x9_of (I P) (I R) (A 4) (A 5) (A 3) (A 2) (A 1) (A 6) (A 0) k w = some r := by
  have hP := h.1
  have hR := h.2.1
  have e46 : ∃ r, x8_of_44 (I P) (I R) (A 6) (A 4) (A 2) (A 5) (A 1) (A 0) (A 3) k w = some r ∧ ((w < 0 ∨ 1 < w) → x9_of (I P) (I R) (A 4) (A 5) (A 3) (A 2) (A 1) (A 6) (A 0) k w = some r) ∧ (¬ w < 0 → ¬ 1 < w → r = -1) := by
    unfold x8_of_44 x9_of x9_within
    have hw : (w < 0 ∨ 1 < w) → ∀ {α : Type} (f : Bool → Option α), ((if w < 0 then some false else if 1 < w then some false else some true).bind f) = f false := by
      intro hw α f
      rcases hw with hw | hw
      · rw [if_pos hw]; rfl
      · by_cases q : w < 0
        · rw [if_pos q]; rfl
        · rw [if_neg q, if_pos hw]; rfl
    rcases hasRoad_is hR k with ⟨e1, e2, n, hn, rfl⟩ | ⟨e1, e2⟩
    · have i1 : inB (I n) 16 = true := by rw [I_inB (by omega)]; exact decide_eq_true (by omega)
      have hn16 : n < 16 := by omega
      have hc : x3_cars (A 4) (I n) = some (24 * A 4 n) := by unfold x3_cars; rw [flowOf_I _ hn16, Option.bind_some]
      rw [e1, Option.bind_some, bif_t, startOf_I _ hn16, Option.bind_some, endOf_I _ hn16, Option.bind_some, flowOf_I _ hn16, Option.bind_some, minutesOf_I _ hn16, Option.bind_some, dangerOf_I _ hn16, Option.bind_some, hc, Option.bind_some]
      have hI := I_clamp (n := n) (by omega)
      have low : ∀ c : Int32, 2 ≤ c.toInt → ¬ w < 0 → ¬ 1 < w → w ≠ c := by
        intro c hc h1 h2 h3
        rw [Int32.lt_iff_toInt_lt] at h2
        rw [h3] at h2
        have : (1 : Int32).toInt = 1 := by decide
        omega
      by_cases w10 : w = 10
      · rw [if_pos w10]
        exact ⟨_, rfl, fun h => by rw [hw h, bif_f, e2, Option.bind_some, bif_t, if_pos w10]; simp only [i1, bif_t, hI], fun h1 h2 => absurd w10 (low 10 (by decide) h1 h2)⟩
      · rw [if_neg w10]
        by_cases w11 : w = 11
        · rw [if_pos w11]
          exact ⟨_, rfl, fun h => by rw [hw h, bif_f, e2, Option.bind_some, bif_t, if_neg w10, if_pos w11]; simp only [i1, bif_t, hI], fun h1 h2 => absurd w11 (low 11 (by decide) h1 h2)⟩
        · rw [if_neg w11]
          by_cases w12 : w = 12
          · rw [if_pos w12]
            exact ⟨_, rfl, fun h => by rw [hw h, bif_f, e2, Option.bind_some, bif_t, if_neg w10, if_neg w11, if_pos w12]; simp only [i1, bif_t, hI], fun h1 h2 => absurd w12 (low 12 (by decide) h1 h2)⟩
          · rw [if_neg w12]
            by_cases w13 : w = 13
            · rw [if_pos w13]
              exact ⟨_, rfl, fun h => by rw [hw h, bif_f, e2, Option.bind_some, bif_t, if_neg w10, if_neg w11, if_neg w12, if_pos w13]; simp only [i1, bif_t, hI], fun h1 h2 => absurd w13 (low 13 (by decide) h1 h2)⟩
            · rw [if_neg w13]
              by_cases w14 : w = 14
              · rw [if_pos w14]
                exact ⟨_, rfl, fun h => by rw [hw h, bif_f, e2, Option.bind_some, bif_t, if_neg w10, if_neg w11, if_neg w12, if_neg w13, if_pos w14]; simp only [i1, bif_t, hI], fun h1 h2 => absurd w14 (low 14 (by decide) h1 h2)⟩
              · rw [if_neg w14]
                exact ⟨_, rfl, fun h => by rw [hw h, bif_f, e2, Option.bind_some, bif_t, if_neg w10, if_neg w11, if_neg w12, if_neg w13, if_neg w14], fun _ _ => rfl⟩
    · rw [e1]
      exact ⟨-1, rfl, fun h => by rw [hw h, bif_f, e2]; rfl, fun _ _ => rfl⟩
  obtain ⟨r, r1, r2, r3⟩ := e46
  unfold x8_of
  by_cases h1 : w < 0
  · rw [if_pos h1]; exact ⟨r, r1, r2 (Or.inl h1)⟩
  · rw [if_neg h1]
    by_cases h2 : 1 < w
    · rw [if_pos h2]; exact ⟨r, r1, r2 (Or.inr h2)⟩
    · rw [if_neg h2]
      have hw : x9_within w 0 1 = some true := by unfold x9_within; rw [if_neg h1, if_neg h2]
      unfold x9_of
      rw [hw, Option.bind_some, bif_t]
      rcases hasPlace_is hP k with ⟨e1, e2, n, hn, rfl⟩ | ⟨e1, e2⟩
      · have i1 : inB (I n) 8 = true := by rw [I_inB (by omega)]; exact decide_eq_true (by omega)
        rw [e1, e2, Option.bind_some, Option.bind_some, bif_t, bif_t, i1, bif_t, bif_t, roomOf_I _ (by omega), Option.bind_some, pumpsOf_I _ (by omega), Option.bind_some, I_clamp (n := n) (by omega)]
        split
        · exact ⟨_, rfl, rfl⟩
        · exact ⟨_, rfl, rfl⟩
      · rw [e1, e2, Option.bind_some, Option.bind_some, bif_f, bif_f, r1, r3 h1 h2]
        exact ⟨-1, rfl, rfl⟩
/-- force -/
def ForceOk (n : Nat) (x2 m11 : Int32) : Prop := m11 = x2 ∧ (x2 = -1 ∨ ∃ k, k < n ∧ x2 = I k)
theorem m_force {n : Nat} (hn : n ≤ 4) {x2 m11 : Int32} (h : ForceOk n x2 m11) (p : Int32) : ∃ r a b, x8_force (I n) x2 p = some (r, a) ∧ x9_force (I n) m11 p = some (r, b) ∧ ForceOk n a b := by
  obtain ⟨rfl, h2⟩ := h
  unfold x8_force x9_force x9_within
  by_cases h1 : p < -1
  · rw [if_pos h1, if_pos h1]; exact ⟨_, _, _, rfl, rfl, rfl, h2⟩
  · rw [if_neg h1, if_neg h1]
    have e1 : (I n - 1 : Int32).toInt = (n : Int) - 1 := by
      rw [Int32.toInt_sub, I_toInt (by omega), show (1 : Int32).toInt = 1 by decide, Int.bmod_def]; omega
    have hlt : (p < I n) ↔ ¬ (I n - 1 < p) := by
      rw [Int32.lt_iff_toInt_lt, Int32.lt_iff_toInt_lt, e1, I_toInt (by omega)]; omega
    by_cases h3 : I n - 1 < p
    · rw [if_pos h3, if_neg (fun h => hlt.mp h h3)]; exact ⟨_, _, _, rfl, rfl, rfl, h2⟩
    · rw [if_neg h3, if_pos (hlt.mpr h3)]
      refine ⟨_, _, _, rfl, rfl, rfl, ?_⟩
      rcases I_or p with ⟨k, hk, rfl⟩ | hp
      · exact Or.inr ⟨k, (I_lt (by omega) (by omega)).mp (hlt.mpr h3), rfl⟩
      · refine Or.inl ?_
        rw [← Int32.toInt_inj]
        rw [Int32.lt_iff_toInt_lt] at h1 hp
        have a1 : (0 : Int32).toInt = 0 := by decide
        have a2 : (-1 : Int32).toInt = -1 := by decide
        omega

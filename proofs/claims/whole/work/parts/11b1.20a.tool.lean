/-! numbers of 32 bits that come out of Nat -/
def I (n : Nat) : Int32 := Int32.ofNat n
theorem I_toInt {n : Nat} (h : n < 2147483648) : (I n).toInt = n := by
  unfold I
  rw [Int32.toInt_ofNat', Int.bmod_def, show Int32.size = 4294967296 from rfl]
  omega
theorem I_clamp {n : Nat} (h : n < 2147483648) : (I n).toNatClampNeg = n := by
  have : (I n).toNatClampNeg = (I n).toInt.toNat := rfl
  rw [this, I_toInt h]; omega
theorem I_lt {a b : Nat} (ha : a < 2147483648) (hb : b < 2147483648) : (I a < I b) ↔ a < b := by
  rw [Int32.lt_iff_toInt_lt, I_toInt ha, I_toInt hb]; omega
theorem I_le {a b : Nat} (ha : a < 2147483648) (hb : b < 2147483648) : (I a ≤ I b) ↔ a ≤ b := by
  rw [Int32.le_iff_toInt_le, I_toInt ha, I_toInt hb]; omega
theorem I_eq {a b : Nat} (ha : a < 2147483648) (hb : b < 2147483648) : (I a = I b) ↔ a = b := by
  rw [← Int32.toInt_inj, I_toInt ha, I_toInt hb]; omega
theorem I_add (a b : Nat) : I a + I b = I (a + b) := by
  unfold I; rw [Int32.ofNat_add]
theorem I_mul (a b : Nat) : I a * I b = I (a * b) := by
  unfold I; rw [Int32.ofNat_mul]
theorem I_sub {a b : Nat} (h : b ≤ a) : I a - I b = I (a - b) := by
  have : I a = I (a - b) + I b := by rw [I_add]; congr 1; omega
  rw [this]; exact Int32.add_sub_cancel _ _
theorem I_div {a b : Nat} (ha : a < 2147483648) (hb : b < 2147483648) : I a / I b = I (a / b) := by
  apply Int32.toInt_inj.mp
  have h1 : a / b ≤ a := Nat.div_le_self a b
  have h2 : ((a : Int)).tdiv (b : Int) = ((a / b : Nat) : Int) := by rw [← Int.ofNat_tdiv]
  have h3 : (I a).toInt.tdiv (I b).toInt = ((a / b : Nat) : Int) := by rw [I_toInt ha, I_toInt hb, h2]
  rw [Int32.toInt_div, h3, I_toInt (Nat.lt_of_le_of_lt h1 ha), Int.bmod_def, show ((2 ^ 32 : Nat) : Int) = 4294967296 from rfl]
  generalize a / b = q at h1 ⊢
  omega
theorem I_rem {a b : Nat} (ha : a < 2147483648) (hb : b < 2147483648) : I a - I a / I b * I b = I (a % b) := by
  have hm := Nat.div_mul_le_self a b
  have hd := Nat.div_add_mod a b
  rw [I_div ha hb, I_mul, I_sub hm]; congr 1
  rw [Nat.mul_comm] at hd; omega
theorem I_inB {n k : Nat} (h : n < 2147483648) : inB (I n) k = decide (n < k) := by
  unfold inB
  have h0 : ¬ (I n < 0) := by
    show ¬ (I n < I 0)
    rw [I_lt h (by omega)]; omega
  rw [I_clamp h]; simp [h0]
theorem I_or (p : Int32) : (∃ n, n < 2147483648 ∧ p = I n) ∨ p < 0 := by
  by_cases h : p.toInt < 0
  · exact Or.inr (Int32.lt_iff_toInt_lt.mpr h)
  · refine Or.inl ⟨p.toInt.toNat, ?_, ?_⟩
    · have := Int32.toInt_lt p; omega
    · have h1 := Int32.toInt_lt p
      apply Int32.toInt_inj.mp
      rw [I_toInt (by omega)]; omega
theorem neg_inB {p : Int32} {k : Nat} (h : p < 0) : inB p k = false := by
  unfold inB; simp [h]
theorem neg_lt {p : Int32} {n : Nat} (h : p < 0) (hn : n < 2147483648) : p < I n := by
  have h0 : p.toInt < 0 := Int32.lt_iff_toInt_lt.mp h
  rw [Int32.lt_iff_toInt_lt, I_toInt hn]; omega
theorem neg_le {p : Int32} {n : Nat} (h : p < 0) (hn : n < 2147483648) : p ≤ I n := by
  have h0 : p.toInt < 0 := Int32.lt_iff_toInt_lt.mp h
  rw [Int32.le_iff_toInt_le, I_toInt hn]; omega
theorem le_neg {p : Int32} {n : Nat} (h : p < 0) (hn : n < 2147483648) : ¬ I n ≤ p := by
  have h0 : p.toInt < 0 := Int32.lt_iff_toInt_lt.mp h
  rw [Int32.le_iff_toInt_le, I_toInt hn]; omega
theorem lt_neg {p : Int32} {n : Nat} (h : p < 0) (hn : n < 2147483648) : ¬ I n < p := by
  have h0 : p.toInt < 0 := Int32.lt_iff_toInt_lt.mp h
  rw [Int32.lt_iff_toInt_lt, I_toInt hn]; omega
theorem eq_neg {p : Int32} {n : Nat} (h : p < 0) (hn : n < 2147483648) : ¬ I n = p := by
  have h0 : p.toInt < 0 := Int32.lt_iff_toInt_lt.mp h
  rw [← Int32.toInt_inj, I_toInt hn]; omega
theorem neg_eq {p : Int32} {n : Nat} (h : p < 0) (hn : n < 2147483648) : ¬ p = I n := by
  have h0 : p.toInt < 0 := Int32.lt_iff_toInt_lt.mp h
  rw [← Int32.toInt_inj, I_toInt hn]; omega
theorem bif_t {α : Type} {a b : α} : (bif true then a else b) = a := rfl
theorem bif_f {α : Type} {a b : α} : (bif false then a else b) = b := rfl
theorem I_0 : (0 : Int32) = I 0 := rfl
theorem I_1 : (1 : Int32) = I 1 := rfl
theorem I_2 : (2 : Int32) = I 2 := rfl
theorem I_3 : (3 : Int32) = I 3 := rfl
theorem I_4 : (4 : Int32) = I 4 := rfl
theorem I_5 : (5 : Int32) = I 5 := rfl
theorem I_6 : (6 : Int32) = I 6 := rfl
theorem I_7 : (7 : Int32) = I 7 := rfl
theorem I_8 : (8 : Int32) = I 8 := rfl
theorem I_9 : (9 : Int32) = I 9 := rfl
theorem I_10 : (10 : Int32) = I 10 := rfl
theorem I_11 : (11 : Int32) = I 11 := rfl
theorem I_12 : (12 : Int32) = I 12 := rfl
theorem I_13 : (13 : Int32) = I 13 := rfl
theorem I_14 : (14 : Int32) = I 14 := rfl
theorem I_15 : (15 : Int32) = I 15 := rfl
theorem I_16 : (16 : Int32) = I 16 := rfl
theorem I_17 : (17 : Int32) = I 17 := rfl
theorem I_18 : (18 : Int32) = I 18 := rfl
theorem I_19 : (19 : Int32) = I 19 := rfl
theorem I_20 : (20 : Int32) = I 20 := rfl
theorem I_21 : (21 : Int32) = I 21 := rfl
theorem I_22 : (22 : Int32) = I 22 := rfl
theorem I_23 : (23 : Int32) = I 23 := rfl
theorem I_24 : (24 : Int32) = I 24 := rfl
theorem I_25 : (25 : Int32) = I 25 := rfl
theorem I_26 : (26 : Int32) = I 26 := rfl
theorem I_27 : (27 : Int32) = I 27 := rfl
theorem I_28 : (28 : Int32) = I 28 := rfl
theorem I_29 : (29 : Int32) = I 29 := rfl
theorem I_30 : (30 : Int32) = I 30 := rfl
theorem I_31 : (31 : Int32) = I 31 := rfl
theorem I_33 : (33 : Int32) = I 33 := rfl
theorem I_37 : (37 : Int32) = I 37 := rfl
theorem I_40 : (40 : Int32) = I 40 := rfl
theorem I_41 : (41 : Int32) = I 41 := rfl
theorem I_47 : (47 : Int32) = I 47 := rfl
theorem I_48 : (48 : Int32) = I 48 := rfl
theorem I_50 : (50 : Int32) = I 50 := rfl
theorem I_57 : (57 : Int32) = I 57 := rfl
theorem I_59 : (59 : Int32) = I 59 := rfl
theorem I_60 : (60 : Int32) = I 60 := rfl
theorem I_61 : (61 : Int32) = I 61 := rfl
theorem I_63 : (63 : Int32) = I 63 := rfl
theorem I_64 : (64 : Int32) = I 64 := rfl
theorem I_70 : (70 : Int32) = I 70 := rfl
theorem I_77 : (77 : Int32) = I 77 := rfl
theorem I_80 : (80 : Int32) = I 80 := rfl
theorem I_81 : (81 : Int32) = I 81 := rfl
theorem I_91 : (91 : Int32) = I 91 := rfl
theorem I_97 : (97 : Int32) = I 97 := rfl
theorem I_99 : (99 : Int32) = I 99 := rfl
theorem I_100 : (100 : Int32) = I 100 := rfl
theorem I_110 : (110 : Int32) = I 110 := rfl
theorem I_119 : (119 : Int32) = I 119 := rfl
theorem I_120 : (120 : Int32) = I 120 := rfl
theorem I_121 : (121 : Int32) = I 121 := rfl
theorem I_124 : (124 : Int32) = I 124 := rfl
theorem I_126 : (126 : Int32) = I 126 := rfl
theorem I_240 : (240 : Int32) = I 240 := rfl
theorem I_255 : (255 : Int32) = I 255 := rfl
theorem I_256 : (256 : Int32) = I 256 := rfl
theorem I_300 : (300 : Int32) = I 300 := rfl
theorem I_480 : (480 : Int32) = I 480 := rfl
theorem I_600 : (600 : Int32) = I 600 := rfl
theorem I_1000 : (1000 : Int32) = I 1000 := rfl
theorem I_1200 : (1200 : Int32) = I 1200 := rfl
theorem I_1439 : (1439 : Int32) = I 1439 := rfl
theorem I_1440 : (1440 : Int32) = I 1440 := rfl
theorem I_9999 : (9999 : Int32) = I 9999 := rfl
theorem I_10000 : (10000 : Int32) = I 10000 := rfl
theorem I_12345 : (12345 : Int32) = I 12345 := rfl
theorem I_1103515245 : (1103515245 : Int32) = I 1103515245 := rfl
theorem hasPlace_I {P n : Nat} (hP : P ≤ 8) (hn : n < 2147483648) : x3_hasPlace (I P) (I n) = some (decide (n < P)) := by
  unfold x3_hasPlace
  simp (disch := omega) only [I_0, I_1, I_2, I_3, I_4, I_5, I_6, I_7, I_8, I_9, I_10, I_11, I_12, I_13, I_14, I_15, I_16, I_17, I_18, I_19, I_20, I_21, I_22, I_23, I_24, I_25, I_26, I_27, I_28, I_29, I_30, I_31, I_33, I_37, I_40, I_41, I_47, I_48, I_50, I_57, I_59, I_60, I_61, I_63, I_64, I_70, I_77, I_80, I_81, I_91, I_97, I_99, I_100, I_110, I_119, I_120, I_121, I_124, I_126, I_240, I_255, I_256, I_300, I_480, I_600, I_1000, I_1200, I_1439, I_1440, I_9999, I_10000, I_12345, I_1103515245, I_lt, I_le, I_eq, I_rem, I_div, I_add, I_mul, I_sub, I_clamp, I_inB]
  repeat' split
  all_goals simp <;> omega
theorem hasPlace_neg {P : Nat} {p : Int32} (h : p < 0) : x3_hasPlace (I P) p = some false := by
  unfold x3_hasPlace
  rw [if_pos h]
theorem hasRoad_I {P n : Nat} (hP : P ≤ 16) (hn : n < 2147483648) : x3_hasRoad (I P) (I n) = some (decide (n < P)) := by
  unfold x3_hasRoad
  simp (disch := omega) only [I_0, I_1, I_2, I_3, I_4, I_5, I_6, I_7, I_8, I_9, I_10, I_11, I_12, I_13, I_14, I_15, I_16, I_17, I_18, I_19, I_20, I_21, I_22, I_23, I_24, I_25, I_26, I_27, I_28, I_29, I_30, I_31, I_33, I_37, I_40, I_41, I_47, I_48, I_50, I_57, I_59, I_60, I_61, I_63, I_64, I_70, I_77, I_80, I_81, I_91, I_97, I_99, I_100, I_110, I_119, I_120, I_121, I_124, I_126, I_240, I_255, I_256, I_300, I_480, I_600, I_1000, I_1200, I_1439, I_1440, I_9999, I_10000, I_12345, I_1103515245, I_lt, I_le, I_eq, I_rem, I_div, I_add, I_mul, I_sub, I_clamp, I_inB]
  repeat' split
  all_goals simp <;> omega
theorem hasRoad_neg {P : Nat} {p : Int32} (h : p < 0) : x3_hasRoad (I P) p = some false := by
  unfold x3_hasRoad
  rw [if_pos h]
theorem within_I {n a b : Nat} (hn : n < 2147483648) (ha : a < 2147483648) (hb : b < 2147483648) : x9_within (I n) (I a) (I b) = some (decide (a ≤ n ∧ n ≤ b)) := by
  unfold x9_within
  simp (disch := omega) only [I_lt, I_le, I_eq, I_rem, I_div, I_add, I_mul, I_sub, I_clamp, I_inB]
  repeat' split
  all_goals simp <;> omega
theorem within_neg {p : Int32} {a b : Nat} (h : p < 0) (ha : a < 2147483648) (hb : b < 2147483648) : x9_within p (I a) (I b) = some false := by
  unfold x9_within
  simp (disch := first | assumption | omega) only [neg_inB, neg_lt, neg_le, le_neg, lt_neg, eq_neg, neg_eq, if_true, if_false, not_true, not_false_iff]
theorem bifd_pos {α : Type} {p : Prop} {d : Decidable p} {a b : α} (h : p) : (bif @decide p d then a else b) = a := by simp [h]
theorem bifd_neg {α : Type} {p : Prop} {d : Decidable p} {a b : α} (h : ¬ p) : (bif @decide p d then a else b) = b := by simp [h]
theorem cond_decide {α : Type} {p : Prop} {d : Decidable p} {a b : α} : (bif @decide p d then a else b) = (if p then a else b) := by
  by_cases h : p
  · simp [h]
  · simp [h]
theorem le_ite {α : Type} {x y : Int32} {a b : α} : (if x ≤ y then a else b) = (if y < x then b else a) := by
  by_cases h : y < x
  · rw [if_pos h, if_neg (Int32.not_le.mpr h)]
  · rw [if_neg h, if_pos (Int32.not_lt.mp h)]
/-- a value between two numbers -/
def In (v : Int32) (a b : Nat) : Prop := ∃ n, a ≤ n ∧ n ≤ b ∧ v = I n
/-- a value that isn't below a and not above b -/
theorem In_of {v : Int32} {a b : Nat} (ha : a < 2147483648) (hb : b < 2147483648) (h1 : ¬ v < I a) (h2 : ¬ I b < v) : In v a b := by
  rcases I_or v with ⟨n, hn, rfl⟩ | hv
  · rw [I_lt hn ha] at h1; rw [I_lt hb hn] at h2
    exact ⟨n, by omega, by omega, rfl⟩
  · exact absurd (neg_lt hv ha) h1
theorem isPlace_I {P n : Nat} (hP : P ≤ 8) (hn : n < 2147483648) : x9_isPlace (I P) (I n) = some (decide (n < P)) := by
  unfold x9_isPlace
  by_cases h0 : P = 0
  · subst h0
    have : x9_within (I n) 0 (I 0 - 1) = some false := by
      unfold x9_within
      rw [show (I 0 - 1 : Int32) = -1 from rfl]
      have h1 : (-1 : Int32) < I n := by rw [Int32.lt_iff_toInt_lt, I_toInt hn, show (-1 : Int32).toInt = -1 from rfl]; omega
      rw [if_pos h1]; split <;> rfl
    rw [this]; simp
  · simp (disch := omega) only [I_0, I_1, I_2, I_3, I_4, I_5, I_6, I_7, I_8, I_9, I_10, I_11, I_12, I_13, I_14, I_15, I_16, I_17, I_18, I_19, I_20, I_21, I_22, I_23, I_24, I_25, I_26, I_27, I_28, I_29, I_30, I_31, I_33, I_37, I_40, I_41, I_47, I_48, I_50, I_57, I_59, I_60, I_61, I_63, I_64, I_70, I_77, I_80, I_81, I_91, I_97, I_99, I_100, I_110, I_119, I_120, I_121, I_124, I_126, I_240, I_255, I_256, I_300, I_480, I_600, I_1000, I_1200, I_1439, I_1440, I_9999, I_10000, I_12345, I_1103515245, I_lt, I_le, I_eq, I_rem, I_div, I_add, I_mul, I_sub, I_clamp, I_inB, within_I, bif_t, bif_f, Option.bind_some, decide_true, decide_false, if_true, if_false, Bool.not_true, Bool.not_false]
    simp; omega
theorem isPlace_neg {P : Nat} {p : Int32} (h : p < 0) : x9_isPlace (I P) p = some false := by
  unfold x9_isPlace x9_within
  rw [if_pos h]; rfl
theorem isRoad_I {P n : Nat} (hP : P ≤ 16) (hn : n < 2147483648) : x9_isRoad (I P) (I n) = some (decide (n < P)) := by
  unfold x9_isRoad
  by_cases h0 : P = 0
  · subst h0
    have : x9_within (I n) 0 (I 0 - 1) = some false := by
      unfold x9_within
      rw [show (I 0 - 1 : Int32) = -1 from rfl]
      have h1 : (-1 : Int32) < I n := by rw [Int32.lt_iff_toInt_lt, I_toInt hn, show (-1 : Int32).toInt = -1 from rfl]; omega
      rw [if_pos h1]; split <;> rfl
    rw [this]; simp
  · simp (disch := omega) only [I_0, I_1, I_2, I_3, I_4, I_5, I_6, I_7, I_8, I_9, I_10, I_11, I_12, I_13, I_14, I_15, I_16, I_17, I_18, I_19, I_20, I_21, I_22, I_23, I_24, I_25, I_26, I_27, I_28, I_29, I_30, I_31, I_33, I_37, I_40, I_41, I_47, I_48, I_50, I_57, I_59, I_60, I_61, I_63, I_64, I_70, I_77, I_80, I_81, I_91, I_97, I_99, I_100, I_110, I_119, I_120, I_121, I_124, I_126, I_240, I_255, I_256, I_300, I_480, I_600, I_1000, I_1200, I_1439, I_1440, I_9999, I_10000, I_12345, I_1103515245, I_lt, I_le, I_eq, I_rem, I_div, I_add, I_mul, I_sub, I_clamp, I_inB, within_I, bif_t, bif_f, Option.bind_some, decide_true, decide_false, if_true, if_false, Bool.not_true, Bool.not_false]
    simp; omega
theorem isRoad_neg {P : Nat} {p : Int32} (h : p < 0) : x9_isRoad (I P) p = some false := by
  unfold x9_isRoad x9_within
  rw [if_pos h]; rfl
theorem In_upd {f : Nat → Int32} {a b k : Nat} {v : Int32} (h : ∀ j, In (f j) a b) (hv : In v a b) : ∀ j, In (upd f k v j) a b := by
  intro j; unfold upd; split
  · exact hv
  · exact h j
theorem In_upd' {f : Nat → Int32} {a b k N : Nat} {v : Int32} (h : ∀ j, j < N → In (f j) a b) (hv : In v a b) : ∀ j, j < N → In (upd f k v j) a b := by
  intro j hj; unfold upd; split
  · exact hv
  · exact h j hj
theorem In_upd1 {f : Nat → Int32} {a b N : Nat} {v : Int32} (h : ∀ j, j < N → In (f j) a b) (hv : In v a b) : ∀ j, j < N + 1 → In (upd f N v j) a b := by
  intro j hj; unfold upd; split
  · exact hv
  · exact h j (by omega)
theorem nrem (n b : Nat) : n - n / b * b = n % b := by
  have h := Nat.div_add_mod n b
  rw [Nat.mul_comm] at h
  omega
theorem hasPair_neg {P : Nat} {p : Int32} (h : p < 0) : x3_hasPair (I P) p = some false := by
  unfold x3_hasPair
  rw [if_pos h]
theorem isPair_neg {P : Nat} {p : Int32} (h : p < 0) : x9_isPair (I P) p = some false := by
  unfold x9_isPair x9_within
  rw [if_pos h]; rfl
theorem hasPair_I {P n : Nat} (hP : P ≤ 8) (hn : n < 2147483648) : x3_hasPair (I P) (I n) = some (decide (n / 10 < P ∧ n % 10 < P)) := by
  unfold x3_hasPair
  simp (disch := omega) only [I_0, I_1, I_2, I_3, I_4, I_5, I_6, I_7, I_8, I_9, I_10, I_11, I_12, I_13, I_14, I_15, I_16, I_17, I_18, I_19, I_20, I_21, I_22, I_23, I_24, I_25, I_26, I_27, I_28, I_29, I_30, I_31, I_33, I_37, I_40, I_41, I_47, I_48, I_50, I_57, I_59, I_60, I_61, I_63, I_64, I_70, I_77, I_80, I_81, I_91, I_97, I_99, I_100, I_110, I_119, I_120, I_121, I_124, I_126, I_240, I_255, I_256, I_300, I_480, I_600, I_1000, I_1200, I_1439, I_1440, I_9999, I_10000, I_12345, I_1103515245, I_lt, I_le, I_eq, I_rem, I_div, I_add, I_mul, I_sub, I_clamp, I_inB, hasPlace_I, Option.bind_some, cond_decide, nrem]
  repeat' split
  all_goals simp <;> omega
theorem isPair_I {P n : Nat} (hP : P ≤ 8) (hn : n < 2147483648) : x9_isPair (I P) (I n) = some (decide (n / 10 < P ∧ n % 10 < P)) := by
  unfold x9_isPair
  simp (disch := omega) only [I_0, I_1, I_2, I_3, I_4, I_5, I_6, I_7, I_8, I_9, I_10, I_11, I_12, I_13, I_14, I_15, I_16, I_17, I_18, I_19, I_20, I_21, I_22, I_23, I_24, I_25, I_26, I_27, I_28, I_29, I_30, I_31, I_33, I_37, I_40, I_41, I_47, I_48, I_50, I_57, I_59, I_60, I_61, I_63, I_64, I_70, I_77, I_80, I_81, I_91, I_97, I_99, I_100, I_110, I_119, I_120, I_121, I_124, I_126, I_240, I_255, I_256, I_300, I_480, I_600, I_1000, I_1200, I_1439, I_1440, I_9999, I_10000, I_12345, I_1103515245, I_lt, I_le, I_eq, I_rem, I_div, I_add, I_mul, I_sub, I_clamp, I_inB, within_I, isPlace_I, Option.bind_some, cond_decide, nrem]
  repeat' split
  all_goals simp <;> omega

theorem hasPair_is {P : Nat} (hP : P ≤ 8) (p : Int32) : (x3_hasPair (I P) p = some true ∧ x9_isPair (I P) p = some true ∧ ∃ n, n < 2147483648 ∧ p = I n ∧ n / 10 < P ∧ n % 10 < P) ∨ (x3_hasPair (I P) p = some false ∧ x9_isPair (I P) p = some false) := by
  rcases I_or p with ⟨n, hn, rfl⟩ | hp
  · rw [hasPair_I hP hn, isPair_I hP hn]
    by_cases h : n / 10 < P ∧ n % 10 < P
    · exact Or.inl ⟨by simp [h], by simp [h], n, hn, rfl, h⟩
    · exact Or.inr ⟨by simp; omega, by simp; omega⟩
  · exact Or.inr ⟨hasPair_neg hp, isPair_neg hp⟩
theorem hasPlace_is {P : Nat} (hP : P ≤ 8) (p : Int32) : (x3_hasPlace (I P) p = some true ∧ x9_isPlace (I P) p = some true ∧ ∃ n, n < P ∧ p = I n) ∨ (x3_hasPlace (I P) p = some false ∧ x9_isPlace (I P) p = some false) := by
  rcases I_or p with ⟨n, hn, rfl⟩ | hp
  · rw [hasPlace_I hP hn, isPlace_I hP hn]
    by_cases h : n < P
    · exact Or.inl ⟨by simp [h], by simp [h], n, h, rfl⟩
    · exact Or.inr ⟨by simp; omega, by simp; omega⟩
  · exact Or.inr ⟨hasPlace_neg hp, isPlace_neg hp⟩
theorem hasRoad_is {P : Nat} (hP : P ≤ 16) (p : Int32) : (x3_hasRoad (I P) p = some true ∧ x9_isRoad (I P) p = some true ∧ ∃ n, n < P ∧ p = I n) ∨ (x3_hasRoad (I P) p = some false ∧ x9_isRoad (I P) p = some false) := by
  rcases I_or p with ⟨n, hn, rfl⟩ | hp
  · rw [hasRoad_I hP hn, isRoad_I hP hn]
    by_cases h : n < P
    · exact Or.inl ⟨by simp [h], by simp [h], n, h, rfl⟩
    · exact Or.inr ⟨by simp; omega, by simp; omega⟩
  · exact Or.inr ⟨hasRoad_neg hp, isRoad_neg hp⟩

/-! one who waits: what both sides count -/
def LandOk (P R : Nat) (A : Nat → Nat → Int32) : Prop := P ≤ 8 ∧ R ≤ 16 ∧ RoadsOk P R (A 6) (A 4) (A 2) (A 5) (A 3)
def faL (A : Nat → Nat → Int32) (pe we sg : Int32) (x : Nat) (h : Int32) : Nat → Int32 := fun j =>
  if j = 0 then A 0 (Nn (A 2) x) else if j = 1 then A 1 (Nn (A 2) x) else if j = 2 then h else if j = 3 then pe else if j = 4 then we else if j = 5 then (if A 3 x = sg then 1 else 0) else if j = 6 then A 6 x else 0
def hab (A : Nat → Nat → Int32) (pe we sg : Int32) (x : Nat) : Int32 := (10 * A 0 (Nn (A 2) x) + 10) / pe - 5 * we + (if A 3 x = sg then 20 else 0)
def bV (A : Nat → Nat → Int32) (pe we sg : Int32) (lw : Option Prog) (x h : Nat) : Int32 :=
  match lw with
  | none => hab A pe we sg x
  | some Q => evP (faL A pe we sg x (I h)) Q
def drw (seed p1 p2 : Int32) : Int32 := (((((((p2 + 1) * 1103515245) + ((p1 + 1) * 12345)) + seed).toUInt32 >>> ((8 : Int32).toUInt32 &&& Int32.toUInt32 31)).toInt32) - ((((((p2 + 1) * 1103515245) + ((p1 + 1) * 12345)) + seed).toUInt32 >>> ((8 : Int32).toUInt32 &&& Int32.toUInt32 31)).toInt32) / 1000 * 1000)
theorem x7draw (seed p1 p2 : Int32) : x7_draw seed p1 p2 = some (drw seed p1 p2) := rfl
theorem x9draw (seed p1 p2 : Int32) : x9_drawn seed p1 p2 = some (drw seed p1 p2) := rfl
/-- the first car of a road since a minute -/
def fc (A : Nat → Nat → Int32) (x t : Nat) : Nat := (t * Nn (A 4) x + 59) / 60
/-- whether a car of a road passes in a minute and stops -/
def stB (A : Nat → Nat → Int32) (pe we sg : Int32) (lw : Option Prog) (seed : Int32) (x t : Nat) : Bool :=
  decide (fc A x t < 24 * Nn (A 4) x) && decide (60 * fc A x t / Nn (A 4) x = t) && decide (drw seed (I x) (I (fc A x t)) < bV A pe we sg lw x (t / 60))
def fnd (p : Nat → Bool) : Nat → Nat → Option Nat
  | 0, _ => none
  | n + 1, t => if p t = true then some t else fnd p n (t + 1)
theorem fnd_none {p : Nat → Bool} : ∀ n t, (∀ u, t ≤ u → u < t + n → p u = false) → fnd p n t = none := by
  intro n
  induction n with
  | zero => intro t _; rfl
  | succ n ih =>
    intro t h
    unfold fnd
    rw [h t (Nat.le_refl _) (by omega), if_neg (by decide)]
    exact ih (t + 1) (fun u h1 h2 => h u (by omega) (by omega))
theorem fnd_skip {p : Nat → Bool} {b : Nat} : ∀ k t, (∀ u, t ≤ u → u < t + k → p u = false) → fnd p (b - t) t = fnd p (b - (t + k)) (t + k) := by
  intro k
  induction k with
  | zero => intro t _; rfl
  | succ k ih =>
    intro t h
    by_cases hb : t < b
    · obtain ⟨n, hn⟩ : ∃ n, b - t = n + 1 := ⟨b - t - 1, by omega⟩
      rw [hn]
      show (if p t = true then some t else fnd p n (t + 1)) = _
      rw [h t (Nat.le_refl _) (by omega), if_neg (by decide), show n = b - (t + 1) by omega, ih (t + 1) (fun u h1 h2 => h u (by omega) (by omega)), show t + 1 + k = t + (k + 1) by omega]
    · rw [show b - t = 0 by omega, show b - (t + (k + 1)) = 0 by omega]; rfl
theorem fnd_hit {p : Nat → Bool} {b t : Nat} (ht : t < b) (h : p t = true) : fnd p (b - t) t = some t := by
  obtain ⟨n, hn⟩ : ∃ n, b - t = n + 1 := ⟨b - t - 1, by omega⟩
  rw [hn]; unfold fnd; rw [if_pos h]
theorem fnd_some {p : Nat → Bool} : ∀ n t u, fnd p n t = some u → t ≤ u ∧ u < t + n ∧ p u = true ∧ ∀ w, t ≤ w → w < u → p w = false := by
  intro n
  induction n with
  | zero => intro t u h; cases h
  | succ n ih =>
    intro t u h
    unfold fnd at h
    by_cases hp : p t = true
    · rw [if_pos hp] at h
      have : t = u := by injection h
      subst this
      exact ⟨Nat.le_refl _, by omega, hp, fun w h1 h2 => by omega⟩
    · rw [if_neg hp] at h
      obtain ⟨h1, h2, h3, h4⟩ := ih (t + 1) u h
      refine ⟨by omega, by omega, h3, fun w h5 h6 => ?_⟩
      by_cases hw : w = t
      · rw [hw]; simpa using hp
      · exact h4 w (by omega) h6
theorem fnd_none' {p : Nat → Bool} : ∀ n t, fnd p n t = none → ∀ u, t ≤ u → u < t + n → p u = false := by
  intro n
  induction n with
  | zero => intro t _ u h1 h2; omega
  | succ n ih =>
    intro t h u h1 h2
    unfold fnd at h
    by_cases hp : p t = true
    · rw [if_pos hp] at h; cases h
    · rw [if_neg hp] at h
      by_cases hu : u = t
      · rw [hu]; simpa using hp
      · exact ih (t + 1) h u (by omega) (by omega)
section car
variable {A : Nat → Nat → Int32} {x : Nat}
theorem fc_le {t j : Nat} : fc A x t ≤ j ↔ t * Nn (A 4) x ≤ 60 * j := by
  unfold fc; generalize t * Nn (A 4) x = k; omega
theorem fc_mono {t u : Nat} (h : t ≤ u) : fc A x t ≤ fc A x u := by
  rw [fc_le]
  have h1 := (fc_le (A := A) (x := x) (t := u)).mp (Nat.le_refl _)
  exact Nat.le_trans (Nat.mul_le_mul_right _ h) h1
/-- the minute of a car and the car of a minute -/
theorem car_min {j : Nat} (h1 : 1 ≤ Nn (A 4) x) (h60 : Nn (A 4) x ≤ 60) : fc A x (60 * j / Nn (A 4) x) = j ∧ fc A x (60 * j / Nn (A 4) x + 1) = j + 1 := by
  have a1 := Nat.div_mul_le_self (60 * j) (Nn (A 4) x)
  have a2 := Nat.lt_div_mul_add (a := 60 * j) h1
  generalize 60 * j / Nn (A 4) x = m at a1 a2
  generalize hf : Nn (A 4) x = g at *
  have a3 : (m + 1) * g = m * g + g := Nat.succ_mul m g
  refine ⟨?_, ?_⟩
  · unfold fc; rw [hf]; generalize m * g = k at *; omega
  · unfold fc; rw [hf, a3]; generalize m * g = k at *; omega
theorem min_ge {t j : Nat} (h1 : 1 ≤ Nn (A 4) x) (h : fc A x t ≤ j) : t ≤ 60 * j / Nn (A 4) x := by
  rw [fc_le] at h
  exact (Nat.le_div_iff_mul_le h1).mpr h
theorem stB_no {pe we sg seed : Int32} {lw : Option Prog} {t : Nat} (h : fc A x t < 24 * Nn (A 4) x → 60 * fc A x t / Nn (A 4) x = t → drw seed (I x) (I (fc A x t)) < bV A pe we sg lw x (t / 60) → False) : stB A pe we sg lw seed x t = false := by
  unfold stB
  by_cases q1 : fc A x t < 24 * Nn (A 4) x
  · by_cases q2 : 60 * fc A x t / Nn (A 4) x = t
    · by_cases q3 : drw seed (I x) (I (fc A x t)) < bV A pe we sg lw x (t / 60)
      · exact absurd (h q1 q2 q3) id
      · rw [decide_eq_false q3, Bool.and_false]
    · rw [decide_eq_false q2, Bool.and_false, Bool.false_and]
  · rw [decide_eq_false q1, Bool.false_and, Bool.false_and]
theorem stB_yes {pe we sg seed : Int32} {lw : Option Prog} {t : Nat} (h1 : fc A x t < 24 * Nn (A 4) x) (h2 : 60 * fc A x t / Nn (A 4) x = t) (h3 : drw seed (I x) (I (fc A x t)) < bV A pe we sg lw x (t / 60)) : stB A pe we sg lw seed x t = true := by
  unfold stB
  rw [decide_eq_true h1, decide_eq_true h2, decide_eq_true h3]; rfl
theorem stB_is {pe we sg seed : Int32} {lw : Option Prog} {t : Nat} (h : stB A pe we sg lw seed x t = true) : fc A x t < 24 * Nn (A 4) x ∧ 60 * fc A x t / Nn (A 4) x = t ∧ drw seed (I x) (I (fc A x t)) < bV A pe we sg lw x (t / 60) := by
  unfold stB at h
  rw [Bool.and_eq_true, Bool.and_eq_true] at h
  exact ⟨of_decide_eq_true h.1.1, of_decide_eq_true h.1.2, of_decide_eq_true h.2⟩
end car
section trip
variable {P R : Nat} {A : Nat → Nat → Int32}
theorem LandOk.r (h : LandOk P R A) {x : Nat} (hx : x < R) : (A 6 x = I (Nn (A 6) x) ∧ Nn (A 6) x ≤ 99) ∧ (A 4 x = I (Nn (A 4) x) ∧ 1 ≤ Nn (A 4) x ∧ Nn (A 4) x ≤ 60) ∧ (A 2 x = I (Nn (A 2) x) ∧ Nn (A 2) x < P) ∧ (A 5 x = I (Nn (A 5) x) ∧ 1 ≤ Nn (A 5) x ∧ Nn (A 5) x ≤ 300) ∧ (A 3 x = I (Nn (A 3) x) ∧ Nn (A 3) x < P) ∧ Nn (A 2) x ≠ Nn (A 3) x := h.2.2.n h.1 hx
theorem in16 (h : LandOk P R A) {x : Nat} (hx : x < R) : inB (I x) 16 = true := by
  have := h.2.1
  rw [I_inB (by omega)]; exact decide_eq_true (by omega)
theorem stI (h : LandOk P R A) {x : Nat} (hx : x < R) : x3_startOf (A 2) (I x) = some (I (Nn (A 2) x)) := by
  obtain ⟨_, _, ⟨e2, _⟩, _⟩ := h.r hx
  have := h.2.1
  rw [startOf_I _ (by omega), ← e2]
theorem enI (h : LandOk P R A) {x : Nat} (hx : x < R) : x3_endOf (A 3) (I x) = some (A 3 x) := endOf_I _ (by have := h.2.1; omega)
theorem daI (h : LandOk P R A) {x : Nat} (hx : x < R) : x3_dangerOf (A 6) (I x) = some (A 6 x) := dangerOf_I _ (by have := h.2.1; omega)
theorem flI (h : LandOk P R A) {x : Nat} (hx : x < R) : x3_flowOf (A 4) (I x) = some (A 4 x) := flowOf_I _ (by have := h.2.1; omega)
theorem miI (h : LandOk P R A) {x : Nat} (hx : x < R) : x3_minutesOf (A 5) (I x) = some (A 5 x) := minutesOf_I _ (by have := h.2.1; omega)
theorem roI (h : LandOk P R A) {x : Nat} (hx : x < R) : x3_roomOf (A 0) (I (Nn (A 2) x)) = some (A 0 (Nn (A 2) x)) := by
  obtain ⟨_, _, ⟨_, l2⟩, _⟩ := h.r hx
  have := h.1
  exact roomOf_I _ (by omega)
theorem puI (h : LandOk P R A) {x : Nat} (hx : x < R) : x3_pumpsOf (A 1) (I (Nn (A 2) x)) = some (A 1 (Nn (A 2) x)) := by
  obtain ⟨_, _, ⟨_, l2⟩, _⟩ := h.r hx
  have := h.1
  exact pumpsOf_I _ (by omega)
theorem m_facts (h : LandOk P R A) {x : Nat} (hx : x < R) (pe we sg hh : Int32) (fa : Nat → Int32) : ∃ fa', x7_noteFacts pe we sg fa (A 6) (A 2) (A 1) (A 0) (A 3) (I x) hh = some fa' ∧ ∀ j, j < 10 → fa' j = faL A pe we sg x hh j := by
  obtain ⟨_, _, ⟨e2, l2⟩, _, _, _⟩ := h.r hx
  have hR := h.2.1
  have hP := h.1
  have i2 : inB (I (Nn (A 2) x)) 8 = true := by rw [I_inB (by omega)]; exact decide_eq_true (by omega)
  unfold x7_noteFacts
  simp only [x7_noteFacts_94, stI h hx, enI h hx, daI h hx, roI h hx, puI h hx, Option.bind_some, bif_t, show inB 0 10 = true by decide, show inB 1 10 = true by decide, show inB 2 10 = true by decide, show inB 3 10 = true by decide, show inB 4 10 = true by decide, show inB 5 10 = true by decide, show inB 6 10 = true by decide, show inB 7 10 = true by decide, show inB 8 10 = true by decide, show inB 9 10 = true by decide]
  have key : ∀ w : Int32, w = (if A 3 x = sg then 1 else 0) → ∀ j, j < 10 → (upd (upd (upd (upd (upd (upd (upd (upd (upd (upd fa (0 : Int32).toNatClampNeg (A 0 (Nn (A 2) x))) (1 : Int32).toNatClampNeg (A 1 (Nn (A 2) x))) (2 : Int32).toNatClampNeg hh) (3 : Int32).toNatClampNeg pe) (4 : Int32).toNatClampNeg we) (5 : Int32).toNatClampNeg w) (6 : Int32).toNatClampNeg (A 6 x)) (7 : Int32).toNatClampNeg 0) (8 : Int32).toNatClampNeg 0) (9 : Int32).toNatClampNeg 0) j = faL A pe we sg x hh j := by
    intro w hw j hj
    have hj' : j = 0 ∨ j = 1 ∨ j = 2 ∨ j = 3 ∨ j = 4 ∨ j = 5 ∨ j = 6 ∨ j = 7 ∨ j = 8 ∨ j = 9 := by omega
    rcases hj' with h | h | h | h | h | h | h | h | h | h <;> subst h <;> first | rfl | exact hw
  by_cases hs : A 3 x = sg
  · rw [if_pos hs]; exact ⟨_, rfl, key 1 (by rw [if_pos hs])⟩
  · rw [if_neg hs]; exact ⟨_, rfl, key 0 (by rw [if_neg hs])⟩
theorem r_facts (h : LandOk P R A) {x : Nat} (hx : x < R) (pe we sg : Int32) {m : Nat} (hm : m < 100000) (fa : Nat → Int32) : ∃ fa', x9_facts we pe sg fa (A 3) (A 2) (A 1) (A 6) (A 0) (I x) (I m) = some fa' ∧ ∀ j, j < 10 → fa' j = faL A pe we sg x (I (m / 60)) j := by
  obtain ⟨_, _, ⟨e2, l2⟩, _, _, _⟩ := h.r hx
  have hR := h.2.1
  have hP := h.1
  have i2 : inB (I (Nn (A 2) x)) 8 = true := by rw [I_inB (by omega)]; exact decide_eq_true (by omega)
  have e60 : I m / 60 = I (m / 60) := I_div (b := 60) (by omega) (by omega)
  unfold x9_facts x9_facts_84
  simp only [in16 h hx, bif_t, I_clamp (n := x) (by omega), e2, e60, i2, I_clamp (n := Nn (A 2) x) (by omega), show inB 0 10 = true by decide, show inB 1 10 = true by decide, show inB 2 10 = true by decide, show inB 3 10 = true by decide, show inB 4 10 = true by decide, show inB 5 10 = true by decide, show inB 6 10 = true by decide, show inB 7 10 = true by decide, show inB 8 10 = true by decide, show inB 9 10 = true by decide]
  have key : ∀ w : Int32, w = (if A 3 x = sg then 1 else 0) → ∀ j, j < 10 → (upd (upd (upd (upd (upd (upd (upd (upd (upd (upd fa (0 : Int32).toNatClampNeg (A 0 (Nn (A 2) x))) (1 : Int32).toNatClampNeg (A 1 (Nn (A 2) x))) (2 : Int32).toNatClampNeg (I (m / 60))) (3 : Int32).toNatClampNeg pe) (4 : Int32).toNatClampNeg we) (5 : Int32).toNatClampNeg w) (6 : Int32).toNatClampNeg (A 6 x)) (7 : Int32).toNatClampNeg 0) (8 : Int32).toNatClampNeg 0) (9 : Int32).toNatClampNeg 0) j = faL A pe we sg x (I (m / 60)) j := by
    intro w hw j hj
    have hj' : j = 0 ∨ j = 1 ∨ j = 2 ∨ j = 3 ∨ j = 4 ∨ j = 5 ∨ j = 6 ∨ j = 7 ∨ j = 8 ∨ j = 9 := by omega
    rcases hj' with h | h | h | h | h | h | h | h | h | h <;> subst h <;> first | rfl | exact hw
  by_cases hs : A 3 x = sg
  · rw [if_pos hs]; exact ⟨_, rfl, key 1 (by rw [if_pos hs])⟩
  · rw [if_neg hs]; exact ⟨_, rfl, key 0 (by rw [if_neg hs])⟩
/-- the law in force, on the class's side -/
def LwC (nul : Bool) (size : Int32) (steps : Nat → Int32) (lw : Option Prog) : Prop := (nul = true ∧ lw = none) ∨ (nul = false ∧ ∃ Q uw, lw = some Q ∧ TxC size uw steps Q)
/-- what is kept by road and hour -/
def RB (round : Int32) (rounds : Nat → Int32) : Prop := ∃ r, round = I r ∧ r < 100000 ∧ ∀ j, j < 384 → ∃ m, m ≤ r ∧ rounds j = I m
def CacheOk (round : Int32) (rounds values : Nat → Int32) (V : Nat → Nat → Int32) : Prop := (∀ x h, x < 16 → h < 24 → rounds (24 * x + h) = round → values (24 * x + h) = V x h) ∧ RB round rounds
theorem RB.learn {round : Int32} {rounds : Nat → Int32} (h : RB round rounds) (k : Nat) : RB round (upd rounds k round) := by
  obtain ⟨r, h1, h2, h3⟩ := h
  refine ⟨r, h1, h2, fun j hj => ?_⟩
  unfold upd
  by_cases e : j = k
  · rw [if_pos e]; exact ⟨r, Nat.le_refl _, h1⟩
  · rw [if_neg e]; exact h3 j hj
/-- what was kept is forgotten -/
theorem RB.forget {r : Nat} {rounds : Nat → Int32} (h : RB (I r) rounds) (hr : r + 1 < 100000) : RB (I (r + 1)) rounds ∧ ∀ j, j < 384 → rounds j ≠ I (r + 1) := by
  obtain ⟨q, h1, h2, h3⟩ := h
  have e : r = q := by rw [I_eq (by omega) (by omega)] at h1; exact h1
  subst e
  refine ⟨⟨r + 1, rfl, hr, fun j hj => ?_⟩, fun j hj h => ?_⟩
  · obtain ⟨m, g1, g2⟩ := h3 j hj
    exact ⟨m, by omega, g2⟩
  · obtain ⟨m, g1, g2⟩ := h3 j hj
    rw [g2, I_eq (by omega) (by omega)] at h
    omega
theorem RB.fresh {r : Nat} {rounds : Nat → Int32} (h : RB (I r) rounds) (hr : r + 1 < 100000) (values : Nat → Int32) (V : Nat → Nat → Int32) : CacheOk (I (r + 1)) rounds values V :=
  ⟨fun x hh h1 h2 h3 => absurd h3 ((h.forget hr).2 _ (by omega)), (h.forget hr).1⟩
theorem hasCellI {x h : Nat} (hx : x < 16) (hh : h < 24) : x2_hasCell (I x) (I h) = some true := by
  unfold x2_hasCell
  rw [if_neg (by show ¬ (I x < I 0); rw [I_lt (by omega) (by omega)]; omega), if_neg (by show ¬ (I 16 ≤ I x); rw [I_le (by omega) (by omega)]; omega), if_neg (by show ¬ (I h < I 0); rw [I_lt (by omega) (by omega)]; omega), if_neg (by show ¬ (I 24 ≤ I h); rw [I_le (by omega) (by omega)]; omega)]
theorem cellI {x h : Nat} (hx : x < 16) (hh : h < 24) : I x * 24 + I h = I (24 * x + h) ∧ inB (I x * 24 + I h) 384 = true ∧ (I x * 24 + I h).toNatClampNeg = 24 * x + h := by
  have e : I x * 24 + I h = I (24 * x + h) := by
    show I x * I 24 + I h = _
    rw [I_mul, I_add]; congr 1; omega
  rw [e]
  exact ⟨rfl, by rw [I_inB (by omega)]; exact decide_eq_true (by omega), I_clamp (by omega)⟩
theorem knowsI {round : Int32} {rounds : Nat → Int32} {x h : Nat} (hx : x < 16) (hh : h < 24) : x2_knows round rounds (I x) (I h) = some (decide (rounds (24 * x + h) = round)) := by
  obtain ⟨_, c2, c3⟩ := cellI hx hh
  unfold x2_knows
  rw [hasCellI hx hh, Option.bind_some, bif_t, c2, bif_t, c3]
  by_cases h : rounds (24 * x + h) = round
  · rw [if_pos h, decide_eq_true h]
  · rw [if_neg h, decide_eq_false h]
theorem valueAtI {values : Nat → Int32} {x h : Nat} (hx : x < 16) (hh : h < 24) : x2_valueAt values (I x) (I h) = some (values (24 * x + h)) := by
  obtain ⟨_, c2, c3⟩ := cellI hx hh
  unfold x2_valueAt
  rw [hasCellI hx hh, Option.bind_some, bif_t, c2, bif_t, c3]
theorem learnI {round : Int32} {rounds values : Nat → Int32} {x h : Nat} (hx : x < 16) (hh : h < 24) (v : Int32) : x2_learn round rounds values (I x) (I h) v = some (upd rounds (24 * x + h) round, upd values (24 * x + h) v) := by
  obtain ⟨_, c2, c3⟩ := cellI hx hh
  unfold x2_learn
  rw [hasCellI hx hh, Option.bind_some, bif_t, c2, bif_t, bif_t, c3]
theorem CacheOk.learn {round : Int32} {rounds values : Nat → Int32} {V : Nat → Nat → Int32} (h : CacheOk round rounds values V) {x hh : Nat} (hx : x < 16) (hh' : hh < 24) {v : Int32} (hv : v = V x hh) : CacheOk round (upd rounds (24 * x + hh) round) (upd values (24 * x + hh) v) V := by
  refine ⟨?_, h.2.learn _⟩
  intro y g hy hg hr
  unfold upd at hr ⊢
  by_cases e : 24 * y + g = 24 * x + hh
  · have e1 : y = x := by omega
    have e2 : g = hh := by omega
    rw [if_pos e, hv, e1, e2]
  · rw [if_neg e] at hr ⊢
    exact h.1 y g hy hg hr
theorem pe_pos {pe : Int32} (hpe : In pe 1 2) : ¬ pe ≤ 0 ∧ pe ≠ 0 := by
  obtain ⟨k, h1, h2, rfl⟩ := hpe
  exact ⟨by show ¬ (I k ≤ I 0); rw [I_le (by omega) (by omega)]; omega, by show I k ≠ I 0; intro h; rw [I_eq (by omega) (by omega)] at h; omega⟩
/-- what a car's draw has to be below -/
theorem m_bar (h : LandOk P R A) {pe we sg : Int32} (hpe : In pe 1 2) {nul : Bool} {size : Int32} {steps : Nat → Int32} {lw : Option Prog} (hlw : LwC nul size steps lw) {round : Int32} {rounds values : Nat → Int32} (hc : CacheOk round rounds values (bV A pe we sg lw)) {x hh : Nat} (hx : x < R) (hh' : hh < 24) (fa stk : Nat → Int32) :
    ∃ fa' rounds' values' stk', x7_bar nul pe we sg round fa size rounds values (A 6) (A 2) (A 1) (A 0) (A 3) stk steps (I x) (I hh) = some (bV A pe we sg lw x hh, fa', rounds', values', stk') ∧ CacheOk round rounds' values' (bV A pe we sg lw) := by
  have hR := h.2.1
  have hP := h.1
  have hx16 : x < 16 := by omega
  have tail : ∀ fa stk v, v = bV A pe we sg lw x hh → ∃ fa' rounds' values' stk', x7_bar_46 nul pe we sg round size (A 6) (A 2) (A 1) (A 0) (A 3) steps (I x) (I hh) fa rounds values stk v = some (bV A pe we sg lw x hh, fa', rounds', values', stk') ∧ CacheOk round rounds' values' (bV A pe we sg lw) := by
    intro fa stk v hv
    rw [x7_bar_46, learnI hx16 hh', Option.bind_some, x7_bar_56, valueAtI hx16 hh', Option.bind_some]
    have hu : upd values (24 * x + hh) v (24 * x + hh) = bV A pe we sg lw x hh := by unfold upd; rw [if_pos rfl, hv]
    exact ⟨fa, upd rounds (24 * x + hh) round, upd values (24 * x + hh) v, stk, by rw [← hu], hc.learn hx16 hh' hv⟩
  unfold x7_bar
  rw [knowsI hx16 hh', Option.bind_some]
  by_cases hk : rounds (24 * x + hh) = round
  · rw [decide_eq_true hk, bif_t, x7_bar_56, valueAtI hx16 hh', Option.bind_some]
    exact ⟨fa, rounds, values, stk, by rw [hc.1 x hh hx16 hh' hk], hc⟩
  · rw [decide_eq_false hk, bif_f]
    rcases hlw with ⟨rfl, rfl⟩ | ⟨rfl, Q, uw, rfl, hT⟩
    · obtain ⟨_, _, ⟨e2, l2⟩, _, _, _⟩ := h.r hx
      have i2 : inB (I (Nn (A 2) x)) 8 = true := by rw [I_inB (by omega)]; exact decide_eq_true (by omega)
      obtain ⟨p1, p2⟩ := pe_pos hpe
      have hh : x7_habit pe we sg (A 2) (A 0) (A 3) (I x) = some (hab A pe we sg x) := by
        unfold x7_habit hab
        simp only [x7_habit_36, stI h hx, roI h hx, enI h hx, Option.bind_some, if_neg p1, if_neg p2]
        by_cases hs : A 3 x = sg
        · rw [if_pos hs, if_pos hs]
        · rw [if_neg hs, if_neg hs]
      rw [bif_t, hh, Option.bind_some]
      exact tail fa stk _ rfl
    · obtain ⟨fa', e1, q1⟩ := m_facts h hx pe we sg (I hh) fa
      obtain ⟨stk', e2⟩ := m_worth hT stk fa'
      rw [bif_f, e1, Option.bind_some, e2, Option.bind_some]
      exact tail fa' stk' _ (evP_cong q1 Q)
theorem passI (h : LandOk P R A) {x j : Nat} (hx : x < R) (hj : j < 100000) : x3_passes (A 4) (I x) (I j) = some (I (60 * j / Nn (A 4) x)) := by
  obtain ⟨_, ⟨e4, l4, l4'⟩, _⟩ := h.r hx
  have hR := h.2.1
  unfold x3_passes
  rw [flI h hx, Option.bind_some, e4, if_pos (by show I 1 ≤ _; rw [I_le (by omega) (by omega)]; exact l4), if_neg (by show ¬ (_ = I 0); rw [I_eq (by omega) (by omega)]; omega)]
  show some (I 60 * I j / _) = _
  rw [I_mul, I_div (by omega) (by omega)]
theorem carsI (h : LandOk P R A) {x : Nat} (hx : x < R) : x3_cars (A 4) (I x) = some (I (24 * Nn (A 4) x)) := by
  obtain ⟨_, ⟨e4, l4, l4'⟩, _⟩ := h.r hx
  have hR := h.2.1
  unfold x3_cars
  rw [flI h hx, Option.bind_some, e4]
  show some (I 24 * _) = _
  rw [I_mul]
theorem fcI (h : LandOk P R A) {x t : Nat} (hx : x < R) (ht : t < 10000) : x3_firstCarSince (A 4) (I x) (I t) = some (I (fc A x t)) := by
  obtain ⟨_, ⟨e4, l4, l4'⟩, _⟩ := h.r hx
  have hR := h.2.1
  have hm : t * Nn (A 4) x ≤ 10000 * 60 := Nat.mul_le_mul (by omega) l4'
  unfold x3_firstCarSince fc
  rw [flI h hx, Option.bind_some, e4, I_mul]
  show some ((I _ + I 59) / I 60) = _
  rw [I_add, I_div (by omega) (by omega)]
def ans (A : Nat → Nat → Int32) (x : Nat) : Option Nat → Int32
  | none => -1
  | some t => I (fc A x t)
/-- the next car that stops -/
theorem m_next (h : LandOk P R A) {pe we sg seed : Int32} (hpe : In pe 1 2) {nul : Bool} {size : Int32} {steps : Nat → Int32} {lw : Option Prog} (hlw : LwC nul size steps lw) {round : Int32} {x : Nat} (hx : x < R) {b : Nat} (hb : b ≤ 1440) :
    ∀ m n j t hour bar fa rounds values stk, 24 * Nn (A 4) x - j ≤ m → m < n → fc A x t = j → j < 100000 → (hour = -1 ∨ ∃ hh, hh < 24 ∧ hour = I hh ∧ bar = bV A pe we sg lw x hh) → CacheOk round rounds values (bV A pe we sg lw) →
      ∃ fa' rounds' values' stk', x7_nextStop_19 nul pe we sg seed round size (A 6) (A 4) (A 2) (A 1) (A 0) (A 3) steps (I x) (I b) (I (24 * Nn (A 4) x)) n fa rounds values stk hour bar (I j) = some (ans A x (fnd (stB A pe we sg lw seed x) (b - t) t), fa', rounds', values', stk') ∧ CacheOk round rounds' values' (bV A pe we sg lw) := by
  obtain ⟨_, ⟨e4, l4, l4'⟩, _⟩ := h.r hx
  intro m
  induction m with
  | zero =>
    intro n j t hour bar fa rounds values stk hm hn hj hjb hbar hc
    obtain ⟨n, rfl⟩ : ∃ k, n = k + 1 := ⟨n - 1, by omega⟩
    refine ⟨fa, rounds, values, stk, ?_, hc⟩
    rw [x7_nextStop_19, if_pos (by rw [I_le (by omega) (by omega)]; omega), fnd_none]
    · rfl
    · intro u h1 _
      have := fc_mono (A := A) (x := x) h1
      exact stB_no (fun q _ _ => by omega)
  | succ m ih =>
    intro n j t hour bar fa rounds values stk hm hn hj hjb hbar hc
    obtain ⟨n, rfl⟩ : ∃ k, n = k + 1 := ⟨n - 1, by omega⟩
    by_cases hcar : 24 * Nn (A 4) x ≤ j
    · refine ⟨fa, rounds, values, stk, ?_, hc⟩
      rw [x7_nextStop_19, if_pos (by rw [I_le (by omega) (by omega)]; omega), fnd_none]
      · rfl
      · intro u h1 _
        have := fc_mono (A := A) (x := x) h1
        exact stB_no (fun q _ _ => by omega)
    · have hjc : j < 24 * Nn (A 4) x := by omega
      obtain ⟨c1, c2⟩ := car_min (A := A) (x := x) (j := j) l4 l4'
      have hmt : t ≤ 60 * j / Nn (A 4) x := min_ge l4 (by omega)
      have hm1440 : 60 * j / Nn (A 4) x < 1440 := by
        rw [Nat.div_lt_iff_lt_mul (by omega)]; omega
      rw [x7_nextStop_19, if_neg (by rw [I_le (by omega) (by omega)]; omega), passI h hx hjb, Option.bind_some]
      have hno : ∀ u, t ≤ u → u < 60 * j / Nn (A 4) x → stB A pe we sg lw seed x u = false := by
        intro u h1 h2
        refine stB_no (fun _ q2 _ => ?_)
        have h3 := fc_mono (A := A) (x := x) h1
        have h4 : 60 * j / Nn (A 4) x ≤ 60 * fc A x u / Nn (A 4) x := Nat.div_le_div_right (by omega)
        omega
      generalize hmm : 60 * j / Nn (A 4) x = mi at *
      by_cases hbm : mi < b
      · rw [if_pos (by rw [I_lt (by omega) (by omega)]; exact hbm)]
        have e60 : I mi / 60 = I (mi / 60) := I_div (b := 60) (by omega) (by omega)
        have hskip : fnd (stB A pe we sg lw seed x) (b - t) t = fnd (stB A pe we sg lw seed x) (b - mi) mi := by
          have := fnd_skip (p := stB A pe we sg lw seed x) (b := b) (mi - t) t (fun u h1 h2 => hno u h1 (by omega))
          rw [show t + (mi - t) = mi by omega] at this
          exact this
        have rest : ∀ fa rounds values stk, CacheOk round rounds values (bV A pe we sg lw) → ∃ fa' rounds' values' stk', x7_nextStop_72 (fun z0 z1 z2 z3 z4 z5 z6 => x7_nextStop_19 nul pe we sg seed round size (A 6) (A 4) (A 2) (A 1) (A 0) (A 3) steps (I x) (I b) (I (24 * Nn (A 4) x)) n z0 z1 z2 z3 z4 z5 z6) nul pe we sg seed round size (A 6) (A 4) (A 2) (A 1) (A 0) (A 3) steps (I x) (I b) (I (24 * Nn (A 4) x)) fa rounds values stk (I (mi / 60)) (bV A pe we sg lw x (mi / 60)) (I j) = some (ans A x (fnd (stB A pe we sg lw seed x) (b - t) t), fa', rounds', values', stk') ∧ CacheOk round rounds' values' (bV A pe we sg lw) := by
          intro fa rounds values stk hc
          rw [x7_nextStop_72, x7draw, Option.bind_some]
          by_cases hd : drw seed (I x) (I j) < bV A pe we sg lw x (mi / 60)
          · rw [if_neg (by rw [Int32.not_le]; exact hd), hskip, fnd_hit hbm (stB_yes (by rw [c1]; exact hjc) (by rw [c1]; exact hmm) (by rw [c1]; exact hd))]
            exact ⟨fa, rounds, values, stk, by show some (I j, _) = some (I (fc A x mi), _); rw [c1], hc⟩
          · rw [if_pos (by rw [← Int32.not_lt]; exact hd), I_succ]
            have hskip2 : fnd (stB A pe we sg lw seed x) (b - mi) mi = fnd (stB A pe we sg lw seed x) (b - (mi + 1)) (mi + 1) := fnd_skip 1 mi (fun u h1 h2 => by
              have hu : u = mi := by omega
              rw [hu]
              exact stB_no (fun _ _ q3 => hd (by rw [c1] at q3; exact q3)))
            rw [hskip, hskip2]
            exact ih n (j + 1) (mi + 1) _ _ fa rounds values stk (by omega) (by omega) c2 (by omega) (Or.inr ⟨mi / 60, by omega, rfl, rfl⟩) hc
        by_cases hhr : I mi / 60 = hour
        · rw [if_pos hhr]
          rcases hbar with hb1 | ⟨hh, h1, h2, h3⟩
          · exfalso
            rw [hb1, e60] at hhr
            exact pos_ne (pos := mi / 60) (by omega) hhr
          · have : mi / 60 = hh := by
              rw [h2, e60, I_eq (by omega) (by omega)] at hhr
              exact hhr
            rw [h3, h2, ← this]
            exact rest fa rounds values stk hc
        · rw [if_neg hhr, e60]
          obtain ⟨fa1, r1, v1, s1, e1, q1⟩ := m_bar h hpe hlw hc (hh := mi / 60) hx (by omega) fa stk
          rw [e1, Option.bind_some]
          exact rest fa1 r1 v1 s1 q1
      · rw [if_neg (by rw [I_lt (by omega) (by omega)]; exact hbm)]
        refine ⟨fa, rounds, values, stk, ?_, hc⟩
        rw [fnd_none]
        · rfl
        · intro u h1 h2
          exact hno u h1 (by omega)
theorem m_nextStop (h : LandOk P R A) {pe we sg seed : Int32} (hpe : In pe 1 2) {nul : Bool} {size : Int32} {steps : Nat → Int32} {lw : Option Prog} (hlw : LwC nul size steps lw) {round : Int32} {x : Nat} (hx : x < R) {b : Nat} (hb : b ≤ 1440) {rounds values : Nat → Int32} (hc : CacheOk round rounds values (bV A pe we sg lw)) {t : Nat} (ht : t < 10000) (fa stk : Nat → Int32) :
    ∃ fa' rounds' values' stk', x7_nextStop nul pe we sg seed round fa size rounds values (A 6) (A 4) (A 2) (A 1) (A 0) (A 3) stk steps (I x) (I (fc A x t)) (I b) = some (ans A x (fnd (stB A pe we sg lw seed x) (b - t) t), fa', rounds', values', stk') ∧ CacheOk round rounds' values' (bV A pe we sg lw) := by
  obtain ⟨_, ⟨e4, l4, l4'⟩, _⟩ := h.r hx
  have hm : t * Nn (A 4) x ≤ 10000 * 60 := Nat.mul_le_mul (by omega) l4'
  unfold x7_nextStop
  rw [carsI h hx, Option.bind_some]
  exact m_next h hpe hlw hx hb 1440 yN (fc A x t) t (-1) 0 fa rounds values stk (by omega) (by unfold yN; omega) rfl (by unfold fc; omega) (Or.inl rfl) hc
end trip

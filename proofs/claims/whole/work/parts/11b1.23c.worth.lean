/-! texts: what the reference's give; what doesn't ask how long one has waited -/
theorem HasM.left {op val : Nat → Int32} {s : Nat} {a b : List Int32} (h : HasM op val s (a ++ b)) : HasM op val s a := by
  intro i x hx
  exact h i x (by rw [List.getElem?_append, if_pos (lt_of_get hx)]; exact hx)
theorem HasM.right {op val : Nat → Int32} {s : Nat} {a b : List Int32} (h : HasM op val s (a ++ b)) : HasM op val (s + a.length) b := by
  intro i x hx
  have := h (a.length + i) x (by rw [List.getElem?_append, if_neg (by omega), Nat.add_sub_cancel_left]; exact hx)
  rw [Nat.add_assoc]; exact this
theorem KP_app (P R : Prog) : KP (P ++ R) = KP P ++ KP R := by
  induction P with
  | nil => rfl
  | cons y P ih => show y.1 ++ y.2 ++ KP (P ++ R) = y.1 ++ y.2 ++ KP P ++ KP R; rw [ih]; simp only [List.append_assoc]
theorem lay_len (P : Prog) : ∀ s, (KP P).length + P.length ≤ (layC s P).length := by
  induction P with
  | nil => intro s; exact Nat.le_refl _
  | cons y P ih =>
    intro s
    have h := ih (s + (lnC s y).length)
    have h2 : y.1.length + y.2.length + 1 ≤ (lnC s y).length := by
      unfold lnC
      split
      · rename_i h0; rw [h0, List.length_append, List.length_singleton]; simp
      · rw [List.length_append, List.length_append, List.length_append, List.length_singleton, List.length_singleton]; omega
    show (y.1 ++ y.2 ++ KP P).length + (P.length + 1) ≤ (lnC s y ++ layC (s + (lnC s y).length) P).length
    rw [List.length_append, List.length_append, List.length_append]; omega
theorem TxC.len {size : Int32} {uw : Bool} {steps : Nat → Int32} {P : Prog} (h : TxC size uw steps P) : (KP P).length ≤ 120 := by
  obtain ⟨s, hs, _, ⟨h1, _⟩, _⟩ := h
  have := lay_len P 0
  cases P with
  | nil => exact Nat.zero_le _
  | cons y P => rw [List.length_cons] at this; omega
theorem mprog {fa op val lF lM lT ls : Nat → Int32} {q : Nat} (hq : q ≤ 4) {P : Prog} (hT : TxM q op val lF lM lT ls P) (hW : ∀ x, x ∈ P → Wf x) (h60 : P.length ≤ 60) (hK : (KP P).length ≤ 120) : ∀ (r pre : Prog) (n : Nat) (pile : Nat → Int32), P = pre ++ r → r.length < n →
    ∃ pile', x9_given_5 fa lF lM lT ls op val (I q) n pile (I (60 * q + pre.length)) = some (evP fa r, pile') := by
  obtain ⟨hC, hL, hls⟩ := hT
  have e60 : 60 * I q + I P.length = I (60 * q + P.length) := by show I 60 * I q + I P.length = _; rw [I_mul, I_add]
  have hq5 : inB (I q) 5 = true := by rw [I_inB (by omega)]; exact decide_eq_true (by omega)
  intro r
  induction r with
  | nil =>
    intro pre n pile hp hn
    obtain ⟨n, rfl⟩ : ∃ k, n = k + 1 := ⟨n - 1, by omega⟩
    have : P.length = pre.length := by rw [hp, List.append_nil]
    exact ⟨pile, by rw [x9_given_5, hq5, bif_t, I_clamp (by omega), hls, e60, if_pos (by rw [I_le (by omega) (by omega)]; omega)]; rfl⟩
  | cons y r ih =>
    intro pre n pile hp hn
    obtain ⟨n, rfl⟩ : ∃ k, n = k + 1 := ⟨n - 1, by omega⟩
    have hPl : P.length = pre.length + (r.length + 1) := by rw [hp, List.length_append, List.length_cons]
    have hi : inB (I (60 * q + pre.length)) 300 = true := by rw [I_inB (by omega)]; exact decide_eq_true (by omega)
    obtain ⟨b1, b2, b3⟩ := hL pre.length y (by rw [hp, List.getElem?_append, if_neg (by omega), Nat.sub_self]; rfl)
    have htake : P.take pre.length = pre := by rw [hp]; exact List.take_left' rfl
    rw [htake] at b1 b2 b3
    have hKP : KP P = KP pre ++ (y.1 ++ (y.2 ++ KP r)) := by
      rw [hp, KP_app]; show KP pre ++ (y.1 ++ y.2 ++ KP r) = _; rw [List.append_assoc]
    have hKl := hK
    rw [hKP, List.length_append, List.length_append, List.length_append] at hKl
    have hM : HasM op val (120 * q) (KP pre ++ (y.1 ++ (y.2 ++ KP r))) := by rw [← hKP]; exact hC
    obtain ⟨w1, w2⟩ := hW y (by rw [hp]; exact List.mem_append.mpr (Or.inr List.mem_cons_self))
    have last : ∀ pile, ∃ pile', x9_given_54 fa lF lM lT ls op val pile (I (60 * q + pre.length)) = some (hd0 (ev fa y.2 []), pile') := by
      intro pile
      obtain ⟨p1, e1⟩ := m_worked (fa := fa) (a := 120 * q + (KP pre).length + y.1.length) (by omega) hM.right.right.left w2 pile
      refine ⟨p1, ?_⟩
      rw [x9_given_54, hi, bif_t, bif_t, I_clamp (by omega), b2, b3, e1, Option.bind_some]
    rw [x9_given_5, hq5, bif_t, I_clamp (n := q) (by omega), hls, e60, if_neg (by rw [I_le (by omega) (by omega)]; omega), hi, bif_t, bif_t, I_clamp (n := 60 * q + pre.length) (by omega), b1, b2]
    by_cases h0 : y.1 = []
    · obtain ⟨p1, e1⟩ := last pile
      rw [if_pos (by rw [h0, List.length_nil, Nat.add_zero]), e1]
      exact ⟨p1, by show some _ = some (if y.1 = [] ∨ hd0 (ev fa y.1 []) ≠ 0 then hd0 (ev fa y.2 []) else evP fa r, p1); rw [if_pos (Or.inl h0)]⟩
    · have hc : dpt y.1 0 = some 1 := by rcases w1 with h | h; exact absurd h h0; exact h
      have hl0 : y.1.length ≠ 0 := fun h => h0 (List.eq_nil_of_length_eq_zero h)
      obtain ⟨p1, e1⟩ := m_worked (fa := fa) (a := 120 * q + (KP pre).length) (by omega) hM.right.left hc pile
      rw [if_neg (by rw [I_eq (by omega) (by omega)]; omega), bif_t, bif_t, e1, Option.bind_some]
      by_cases hv : hd0 (ev fa y.1 []) = 0
      · rw [if_pos hv, I_succ]
        obtain ⟨p2, e2⟩ := ih (pre ++ [y]) n p1 (by rw [hp, List.append_assoc]; rfl) (by rw [List.length_cons] at hn; omega)
        rw [List.length_append, List.length_singleton, ← Nat.add_assoc] at e2
        refine ⟨p2, ?_⟩
        rw [e2]
        show _ = some (if y.1 = [] ∨ hd0 (ev fa y.1 []) ≠ 0 then hd0 (ev fa y.2 []) else evP fa r, p2)
        rw [if_neg (by rintro (h | h); exact h0 h; exact h hv)]
      · rw [if_neg hv]
        obtain ⟨p2, e2⟩ := last p1
        refine ⟨p2, ?_⟩
        rw [e2]
        show _ = some (if y.1 = [] ∨ hd0 (ev fa y.1 []) ≠ 0 then hd0 (ev fa y.2 []) else evP fa r, p2)
        rw [if_pos (Or.inr hv)]
theorem m_given {fa op val lF lM lT ls : Nat → Int32} {q : Nat} (hq : q ≤ 4) {size : Int32} {uw : Bool} {steps : Nat → Int32} {P : Prog} (h : TxC size uw steps P) (hT : TxM q op val lF lM lT ls P) (pile : Nat → Int32) :
    ∃ pile', x9_given fa lF lM lT ls op pile val (I q) = some (evP fa P, pile') := by
  have hK := h.len
  obtain ⟨s, hs, _, _, _, hW, h60⟩ := h
  unfold x9_given
  have e : (60 : Int32) * I q = I (60 * q) := I_mul 60 q
  rw [e]
  exact mprog hq hT hW h60 hK P [] yN pile rfl (by unfold yN; omega)
theorem ev_no9 {fa fb : Nat → Int32} (h : ∀ j, j ≠ 9 → fa j = fb j) : ∀ (c st : List Int32), has9 c = false → ev fa c st = ev fb c st := by
  intro c
  induction c with
  | nil => intro st _; rfl
  | cons x c ih =>
    intro st h9
    have h1 : (decide (x = 9) || has9 c) = false := h9
    have h2 : has9 c = false := by
      cases hh : has9 c
      · rfl
      · rw [hh, Bool.or_true] at h1; cases h1
    have h3 : x ≠ 9 := by
      intro hx
      rw [decide_eq_true hx, Bool.true_or] at h1; cases h1
    show ev fa c (evs fa x st) = ev fb c (evs fb x st)
    have : evs fa x st = evs fb x st := by
      unfold evs
      by_cases q1 : 1000 ≤ x
      · rw [if_pos q1, if_pos q1]
      · rw [if_neg q1, if_neg q1]
        by_cases q2 : 0 ≤ x ∧ x < 10
        · rw [if_pos q2, if_pos q2, h]
          intro h9
          obtain ⟨k, _, hk, e⟩ := In_of (v := x) (a := 0) (b := 9) (by omega) (by omega) (Int32.not_lt.mpr q2.1) (by
            intro h
            have q3 := q2.2
            rw [Int32.lt_iff_toInt_lt] at h q3
            have e9 : (I 9).toInt = 9 := I_toInt (by omega)
            have e10 : (10 : Int32).toInt = 10 := by decide
            omega)
          rw [e, I_clamp (by omega)] at h9
          apply h3; rw [e, h9]; rfl
        · rw [if_neg q2, if_neg q2]
    rw [this]; exact ih _ h2
theorem evP_no9 {fa fb : Nat → Int32} (h : ∀ j, j ≠ 9 → fa j = fb j) : ∀ (P : Prog), has9 (KP P) = false → evP fa P = evP fb P := by
  intro P
  induction P with
  | nil => intro _; rfl
  | cons y P ih =>
    intro h9
    have h1 : has9 (y.1 ++ y.2 ++ KP P) = false := h9
    rw [has9_app, has9_app, Bool.or_eq_false_iff, Bool.or_eq_false_iff] at h1
    show (if y.1 = [] ∨ hd0 (ev fa y.1 []) ≠ 0 then hd0 (ev fa y.2 []) else evP fa P) = (if y.1 = [] ∨ hd0 (ev fb y.1 []) ≠ 0 then hd0 (ev fb y.2 []) else evP fb P)
    rw [ev_no9 h y.1 [] h1.1.1, ev_no9 h y.2 [] h1.1.2, ih h1.2]
/-- rows that say the same below ten -/
theorem ev_cong {fa fb : Nat → Int32} (h : ∀ j, j < 10 → fa j = fb j) : ∀ (c st : List Int32), ev fa c st = ev fb c st := by
  intro c
  induction c with
  | nil => intro st; rfl
  | cons x c ih =>
    intro st
    show ev fa c (evs fa x st) = ev fb c (evs fb x st)
    have : evs fa x st = evs fb x st := by
      unfold evs
      by_cases q1 : 1000 ≤ x
      · rw [if_pos q1, if_pos q1]
      · rw [if_neg q1, if_neg q1]
        by_cases q2 : 0 ≤ x ∧ x < 10
        · rw [if_pos q2, if_pos q2, h]
          obtain ⟨k, _, hk, e⟩ := In_of (v := x) (a := 0) (b := 9) (by omega) (by omega) (Int32.not_lt.mpr q2.1) (by
            intro h
            have q3 := q2.2
            rw [Int32.lt_iff_toInt_lt] at h q3
            have e9 : (I 9).toInt = 9 := I_toInt (by omega)
            have e10 : (10 : Int32).toInt = 10 := by decide
            omega)
          rw [e, I_clamp (by omega)]; omega
        · rw [if_neg q2, if_neg q2]
    rw [this]; exact ih _
theorem evP_cong {fa fb : Nat → Int32} (h : ∀ j, j < 10 → fa j = fb j) : ∀ (P : Prog), evP fa P = evP fb P := by
  intro P
  induction P with
  | nil => rfl
  | cons y P ih =>
    show (if y.1 = [] ∨ hd0 (ev fa y.1 []) ≠ 0 then hd0 (ev fa y.2 []) else evP fa P) = (if y.1 = [] ∨ hd0 (ev fb y.1 []) ≠ 0 then hd0 (ev fb y.2 []) else evP fb P)
    rw [ev_cong h y.1 [], ev_cong h y.2 [], ih]

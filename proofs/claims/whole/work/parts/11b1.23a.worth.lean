/-! texts: what they give -/
def jn (o a b : Int32) : Int32 :=
  if o = 37 then (if b = 0 then 0 else a - a / b * b) else if o = 38 then (if a = 0 then 0 else if b = 0 then 0 else 1) else if o = 42 then a * b else if o = 43 then a + b else if o = 45 then a - b else if o = 47 then (if b = 0 then 0 else a / b) else if o = 60 then (if b ≤ a then 0 else 1) else if o = 61 then (if a = b then 1 else 0) else if o = 62 then (if a ≤ b then 0 else 1) else if a = 0 then (if b = 0 then 0 else 1) else 1
theorem x6join {o : Int32} (h : 1 ≤ rk o) (a b : Int32) : x6_joined o a b = some (jn o a b) := by
  unfold x6_joined jn
  rcases rk_cases h with h | h | h | h | h | h | h | h | h | h <;> subst h
  · rw [if_pos rfl, if_pos rfl]
    by_cases hb : b = 0
    · rw [if_pos hb, if_pos hb]
    · rw [if_neg hb, if_neg hb, if_neg hb]
  · rw [if_neg (show ¬ ((38 : Int32) = 37) by decide), if_pos rfl, if_neg (show ¬ ((38 : Int32) = 37) by decide), if_pos rfl]
    repeat' split
    all_goals rfl
  · rfl
  · rfl
  · rfl
  · show (if b = 0 then some 0 else if b = 0 then none else some (a / b)) = some (if b = 0 then 0 else a / b)
    by_cases hb : b = 0
    · rw [if_pos hb, if_pos hb]
    · rw [if_neg hb, if_neg hb, if_neg hb]
  · show (if b ≤ a then some 0 else some 1) = some (if b ≤ a then 0 else 1)
    split <;> rfl
  · show (if a = b then some 1 else some 0) = some (if a = b then 1 else 0)
    split <;> rfl
  · show (if a ≤ b then some 0 else some 1) = some (if a ≤ b then 0 else 1)
    split <;> rfl
  · show (if a = 0 then (if b = 0 then some 0 else some 1) else some 1) = some (if a = 0 then (if b = 0 then 0 else 1) else 1)
    repeat' split
    all_goals rfl
theorem x9both {o : Int32} (h : 1 ≤ rk o) (a b : Int32) : x9_both o a b = some (jn o a b) := by
  unfold x9_both jn
  rcases rk_cases h with h | h | h | h | h | h | h | h | h | h <;> subst h
  · show (if b = 0 then some 0 else if b = 0 then none else some (a - a / b * b)) = some (if b = 0 then 0 else a - a / b * b)
    by_cases hb : b = 0
    · rw [if_pos hb, if_pos hb]
    · rw [if_neg hb, if_neg hb, if_neg hb]
  · show (if a = 0 then some 0 else if b = 0 then some 0 else some 1) = some (if a = 0 then 0 else if b = 0 then 0 else 1)
    repeat' split
    all_goals rfl
  · rfl
  · rfl
  · rfl
  · show (if b = 0 then some 0 else if b = 0 then none else some (a / b)) = some (if b = 0 then 0 else a / b)
    by_cases hb : b = 0
    · rw [if_pos hb, if_pos hb]
    · rw [if_neg hb, if_neg hb, if_neg hb]
  · show (if b ≤ a then some 0 else some 1) = some (if b ≤ a then 0 else 1)
    split <;> rfl
  · show (if a = b then some 1 else some 0) = some (if a = b then 1 else 0)
    split <;> rfl
  · show (if a ≤ b then some 0 else some 1) = some (if a ≤ b then 0 else 1)
    split <;> rfl
  · show (if a = 0 then (if b = 0 then some 0 else some 1) else some 1) = some (if a = 0 then (if b = 0 then 0 else 1) else 1)
    repeat' split
    all_goals rfl
/-- a step over a stack -/
def evs (fa : Nat → Int32) (x : Int32) (st : List Int32) : List Int32 :=
  if 1000 ≤ x then (x - 1000) :: st else if 0 ≤ x ∧ x < 10 then fa x.toNatClampNeg :: st
  else match st with
    | [] => []
    | b :: r => if x = 126 then (-b) :: r else if x = 33 then (if b = 0 then 1 else 0) :: r else match r with
      | [] => []
      | a :: t => jn x a b :: t
def ev (fa : Nat → Int32) : List Int32 → List Int32 → List Int32
  | [], st => st
  | x :: c, st => ev fa c (evs fa x st)
def hd0 : List Int32 → Int32
  | [] => 0
  | x :: _ => x
def evP (fa : Nat → Int32) : Prog → Int32
  | [] => 0
  | x :: r => if x.1 = [] ∨ hd0 (ev fa x.1 []) ≠ 0 then hd0 (ev fa x.2 []) else evP fa r
/-- the kinds of steps -/
theorem dpt1 {x : Int32} {n m : Nat} (h : dpt [x] n = some m) : (1000 ≤ x ∧ n < 64 ∧ m = n + 1) ∨ (¬ 1000 ≤ x ∧ 0 ≤ x ∧ x < 10 ∧ n < 64 ∧ m = n + 1) ∨ ((x = 126 ∨ x = 33) ∧ 1 ≤ n ∧ m = n) ∨ (1 ≤ rk x ∧ 2 ≤ n ∧ m = n - 1) := by
  unfold dpt at h
  by_cases h1 : 1000 ≤ x ∨ (0 ≤ x ∧ x < 10)
  · rw [if_pos h1] at h
    by_cases h2 : n < 64
    · rw [if_pos h2] at h
      have h3 : n + 1 = m := by injection h
      by_cases h4 : 1000 ≤ x
      · exact Or.inl ⟨h4, h2, h3.symm⟩
      · rcases h1 with h1 | h1
        · exact absurd h1 h4
        · exact Or.inr (Or.inl ⟨h4, h1.1, h1.2, h2, h3.symm⟩)
    · rw [if_neg h2] at h; cases h
  · rw [if_neg h1] at h
    by_cases h2 : x = 126 ∨ x = 33
    · rw [if_pos h2] at h
      by_cases h3 : 1 ≤ n
      · rw [if_pos h3] at h
        have h4 : n = m := by injection h
        exact Or.inr (Or.inr (Or.inl ⟨h2, h3, h4.symm⟩))
      · rw [if_neg h3] at h; cases h
    · rw [if_neg h2] at h
      by_cases h3 : 1 ≤ rk x
      · rw [if_pos h3] at h
        by_cases h4 : 2 ≤ n
        · rw [if_pos h4] at h
          have h5 : n - 1 = m := by injection h
          exact Or.inr (Or.inr (Or.inr ⟨h3, h4, h5.symm⟩))
        · rw [if_neg h4] at h; cases h
      · rw [if_neg h3] at h; cases h
theorem op_facts {x : Int32} (h : 1 ≤ rk x) : ¬ 1000 ≤ x ∧ ¬ x < 0 ∧ 10 ≤ x ∧ x ≠ 59 ∧ 0 ≤ x ∧ x ≠ 126 ∧ x ≠ 33 ∧ ¬ x < 10 ∧ x ≠ 0 ∧ x ≠ 1 ∧ x ≠ 110 := by
  rcases rk_cases h with h | h | h | h | h | h | h | h | h | h <;> subst h <;> decide
theorem evs_len {fa : Nat → Int32} {x : Int32} {st : List Int32} {m : Nat} (h : dpt [x] st.length = some m) : (evs fa x st).length = m := by
  unfold evs
  rcases dpt1 h with ⟨h1, h2, h3⟩ | ⟨h1, h2, h3, h4, h5⟩ | ⟨h1, h2, h3⟩ | ⟨h1, h2, h3⟩
  · rw [if_pos h1, h3]; rfl
  · rw [if_neg h1, if_pos ⟨h2, h3⟩, h5]; rfl
  · rw [if_neg (by rcases h1 with h | h <;> rw [h] <;> decide), if_neg (by rcases h1 with h | h <;> rw [h] <;> decide)]
    cases st with
    | nil => exact absurd h2 (by decide)
    | cons b r =>
      by_cases h4 : x = 126
      · simp only [if_pos h4]; rw [h3]; rfl
      · have h5 : x = 33 := by rcases h1 with h | h; exact absurd h h4; exact h
        simp only [if_neg h4, if_pos h5]; rw [h3]; rfl
  · have hf := op_facts h1
    rw [if_neg hf.1, if_neg (fun h => hf.2.2.2.2.2.2.2.1 h.2)]
    cases st with
    | nil => exact absurd h2 (by decide)
    | cons b r =>
      cases r with
      | nil => exact absurd h2 (by rw [List.length_singleton]; omega)
      | cons a t =>
        simp only [if_neg hf.2.2.2.2.2.1, if_neg hf.2.2.2.2.2.2.1]; rw [h3]; rfl
theorem dpt_cons {x : Int32} {c : List Int32} {n m : Nat} (h : dpt (x :: c) n = some m) : ∃ k, dpt [x] n = some k ∧ dpt c k = some m := by
  have h1 := dpt_app [x] c n
  rw [List.singleton_append, h] at h1
  cases h2 : dpt [x] n with
  | none => rw [h2] at h1; cases h1
  | some k => rw [h2] at h1; exact ⟨k, rfl, h1.symm⟩
theorem ev_len {fa : Nat → Int32} : ∀ {c st : List Int32} {m : Nat}, dpt c st.length = some m → (ev fa c st).length = m := by
  intro c
  induction c with
  | nil => intro st m h; injection h
  | cons x c ih =>
    intro st m h
    obtain ⟨k, h1, h2⟩ := dpt_cons h
    show (ev fa c (evs fa x st)).length = m
    refine ih ?_
    rw [evs_len h1]; exact h2
/-- the class: a step -/
theorem wstep {fa steps : Nat → Int32} {z a n : Nat} (hz : z ≤ 124) (ha : a < z) {x : Int32} (hx : steps a = x) {st : List Int32} {stack : Nat → Int32} (hS : Stk stack st) {m : Nat} (hm : dpt [x] st.length = some m) (h64 : st.length ≤ 64) :
    ∃ stack', x6_worth_4 (I z) steps fa (n + 1) stack (I st.length) (I a) = x6_worth_4 (I z) steps fa n stack' (I m) (I (a + 1)) ∧ Stk stack' (evs fa x st) ∧ m ≤ 64 := by
  rw [x6_worth_4, if_neg (by rw [I_le (by omega) (by omega)]; omega), if_neg (by show ¬ (I 124 ≤ I a); rw [I_le (by omega) (by omega)]; omega), I_inB (by omega), decide_eq_true (by omega : a < 124), bif_t, I_clamp (by omega), hx]
  unfold evs
  rcases dpt1 hm with ⟨h1, h2, h3⟩ | ⟨h1, h2, h3, h4, h5⟩ | ⟨h1, h2, h3⟩ | ⟨h1, h2, h3⟩
  · rw [if_pos h1, x6_worth_49, if_neg (by show ¬ (I 64 ≤ _); rw [I_le (by omega) (by omega)]; omega), if_pos h1, x6_worth_75, if_neg (by rw [Int32.not_lt]; exact h1), x6_worth_101, I_inB (by omega), decide_eq_true h2, bif_t, x6_worth_268, I_succ, I_succ, I_clamp (by omega), if_pos h1]
    exact ⟨_, by rw [h3], hS.push, by omega⟩
  · have hn0 : ¬ x < 0 := Int32.not_lt.mpr h2
    have hn10 : ¬ 10 ≤ x := Int32.not_le.mpr h3
    obtain ⟨k, _, hk, e⟩ := In_of (v := x) (a := 0) (b := 9) (by omega) (by omega) hn0 (by
      intro h
      apply hn10
      rw [Int32.le_iff_toInt_le]
      rw [Int32.lt_iff_toInt_lt] at h
      have e9 : (I 9).toInt = 9 := I_toInt (by omega)
      have e10 : (10 : Int32).toInt = 10 := by decide
      omega)
    rw [if_neg h1, if_neg hn0, if_neg hn10, x6_worth_49, if_neg (by show ¬ (I 64 ≤ _); rw [I_le (by omega) (by omega)]; omega), if_neg h1, if_pos h3, x6_worth_75, if_pos (by rw [e]; show I k < I 1000; rw [I_lt (by omega) (by omega)]; omega), show inB x 10 = true by rw [e, I_inB (by omega)]; exact decide_eq_true (by omega), bif_t, x6_worth_101, I_inB (by omega), decide_eq_true h4, bif_t, x6_worth_268, I_succ, I_succ, I_clamp (by omega), if_neg h1, if_pos ⟨h2, h3⟩]
    exact ⟨_, by rw [h5], hS.push, by omega⟩
  · cases st with
    | nil => exact absurd h2 (by decide)
    | cons b r =>
      rw [List.length_cons] at h2 h3 h64 ⊢
      have hb : stack r.length = b := hS.1
      have hfx : ¬ 1000 ≤ x ∧ ¬ x < 0 ∧ 10 ≤ x ∧ x ≠ 59 ∧ 0 ≤ x ∧ ¬ x < 10 := by rcases h1 with h | h <;> subst h <;> decide
      rw [if_neg hfx.1, if_neg hfx.2.1, if_pos hfx.2.2.1, x6_worth_108, if_neg (by show ¬ (_ < I 1); rw [I_lt (by omega) (by omega)]; omega), if_pos (by show _ ≤ I 64; rw [I_le (by omega) (by omega)]; omega), if_neg hfx.2.2.2.1, if_pos hfx.2.2.2.2.1, I_pred (by omega), Nat.add_sub_cancel, I_inB (by omega), decide_eq_true (by omega : r.length < 64), I_clamp (by omega), hb]
      rw [if_neg (show ¬ (1000 ≤ x) from hfx.1), if_neg (show ¬ (0 ≤ x ∧ x < 10) from fun h => hfx.2.2.2.2.2 h.2)]
      by_cases h4 : x = 126
      · simp only [if_pos h4, bif_t]
        rw [x6_worth_268, I_succ, h3]
        exact ⟨_, rfl, ⟨by unfold upd; rw [if_pos rfl], hS.2.upd_ (Nat.le_refl _)⟩, by omega⟩
      · have h5 : x = 33 := by rcases h1 with h | h; exact absurd h h4; exact h
        simp only [if_neg h4, if_pos h5, bif_t]
        by_cases h0 : b = 0
        · rw [if_pos h0, if_pos h0, x6_worth_227, I_inB (by omega), decide_eq_true (by omega : r.length < 64), bif_t, x6_worth_268, I_succ, I_clamp (by omega), h3]
          exact ⟨_, rfl, ⟨by unfold upd; rw [if_pos rfl], hS.2.upd_ (Nat.le_refl _)⟩, by omega⟩
        · rw [if_neg h0, if_neg h0, x6_worth_227, I_inB (by omega), decide_eq_true (by omega : r.length < 64), bif_t, x6_worth_268, I_succ, I_clamp (by omega), h3]
          exact ⟨_, rfl, ⟨by unfold upd; rw [if_pos rfl], hS.2.upd_ (Nat.le_refl _)⟩, by omega⟩
  · have hf := op_facts h1
    cases st with
    | nil => exact absurd h2 (by decide)
    | cons b r =>
      cases r with
      | nil => exact absurd h2 (by rw [List.length_singleton]; omega)
      | cons c t =>
        rw [List.length_cons, List.length_cons] at h2 h3 h64 ⊢
        have hb : stack (t.length + 1) = b := hS.1
        have hc : stack t.length = c := hS.2.1
        have e1 : I (t.length + 1 + 1) + (-1) = I (t.length + 1) := by
          have : I (t.length + 1 + 1) + (-1) = I (t.length + 1 + 1) - 1 := by rw [Int32.sub_eq_add_neg]
          rw [this, I_pred (by omega), Nat.add_sub_cancel]
        rw [if_neg hf.1, if_neg hf.2.1, if_pos hf.2.2.1, x6_worth_108, if_neg (by show ¬ (_ < I 1); rw [I_lt (by omega) (by omega)]; omega), if_pos (by show _ ≤ I 64; rw [I_le (by omega) (by omega)]; omega), if_neg hf.2.2.2.1, if_pos hf.2.2.2.2.1, if_neg hf.2.2.2.2.2.1, if_neg hf.2.2.2.2.2.2.1, if_pos (by show I 2 ≤ _; rw [I_le (by omega) (by omega)]; omega), e1, I_pred (by omega), Nat.add_sub_cancel, I_inB (by omega), I_inB (by omega), decide_eq_true (by omega : t.length < 64), decide_eq_true (by omega : t.length + 1 < 64), bif_t, bif_t, I_clamp (by omega), I_clamp (by omega), hb, hc, x6join h1, Option.bind_some, bif_t, x6_worth_268, I_succ]
        rw [if_neg (show ¬ (1000 ≤ x) from hf.1), if_neg (show ¬ (0 ≤ x ∧ x < 10) from fun h => hf.2.2.2.2.2.2.2.1 h.2)]
        simp only [if_neg hf.2.2.2.2.2.1, if_neg hf.2.2.2.2.2.2.1]
        exact ⟨_, by rw [h3]; rfl, ⟨by unfold upd; rw [if_pos rfl], hS.2.2.upd_ (Nat.le_refl _)⟩, by omega⟩

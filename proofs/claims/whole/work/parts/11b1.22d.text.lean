/-! texts: the class's descent against the reference's turns -/
theorem x6add_I {s : Nat} (hs : s < 124) (uw : Bool) (steps : Nat → Int32) (v : Int32) : x6_add (I s) uw steps v = some (I (s + 1), (uw || decide (v = 9)), upd steps s v) := by
  unfold x6_add
  rw [if_neg (by show ¬ (I s < I 0); rw [I_lt (by omega) (by omega)]; omega), if_pos (by show I s < I 124; rw [I_lt (by omega) (by omega)]; omega), I_inB (by omega), decide_eq_true (by omega : s < 124), bif_t, I_succ, I_clamp (by omega)]
  cases uw
  · rw [bif_f]
    by_cases h : v = 9
    · rw [if_pos h, decide_eq_true h]; rfl
    · rw [if_neg h, decide_eq_false h]; rfl
  · rw [bif_t]; rfl
theorem x6add_any {s : Nat} (hs : s ≤ 124) (uw : Bool) (steps : Nat → Int32) (v : Int32) : ∃ s' uw' steps', x6_add (I s) uw steps v = some (I s', uw', steps') ∧ s' ≤ 124 := by
  by_cases h : s < 124
  · exact ⟨_, _, _, x6add_I h uw steps v, by omega⟩
  · refine ⟨s, uw, steps, ?_, hs⟩
    unfold x6_add
    rw [if_neg (by show ¬ (I s < I 0); rw [I_lt (by omega) (by omega)]; omega), if_neg (by show ¬ (I s < I 124); rw [I_lt (by omega) (by omega)]; omega)]
/-- how deep the stack lies behind code -/
def dpt : List Int32 → Nat → Option Nat
  | [], n => some n
  | s :: r, n => if 1000 ≤ s ∨ (0 ≤ s ∧ s < 10) then (if n < 64 then dpt r (n + 1) else none) else if s = 126 ∨ s = 33 then (if 1 ≤ n then dpt r n else none) else if 1 ≤ rk s then (if 2 ≤ n then dpt r (n - 1) else none) else none
theorem dpt_app (a b : List Int32) : ∀ n, dpt (a ++ b) n = (dpt a n).bind (dpt b) := by
  induction a with
  | nil => intro n; rfl
  | cons s a ih =>
    intro n
    rw [List.cons_append]
    unfold dpt
    by_cases h1 : 1000 ≤ s ∨ (0 ≤ s ∧ s < 10)
    · rw [if_pos h1, if_pos h1]
      by_cases h2 : n < 64
      · rw [if_pos h2, if_pos h2]; exact ih _
      · rw [if_neg h2, if_neg h2]; rfl
    · rw [if_neg h1, if_neg h1]
      by_cases h3 : s = 126 ∨ s = 33
      · rw [if_pos h3, if_pos h3]
        by_cases h2 : 1 ≤ n
        · rw [if_pos h2, if_pos h2]; exact ih _
        · rw [if_neg h2, if_neg h2]; rfl
      · rw [if_neg h3, if_neg h3]
        by_cases h4 : 1 ≤ rk s
        · rw [if_pos h4, if_pos h4]
          by_cases h2 : 2 ≤ n
          · rw [if_pos h2, if_pos h2]; exact ih _
          · rw [if_neg h2, if_neg h2]; rfl
        · rw [if_neg h4, if_neg h4]; rfl
def nd (o : Nat) : Nat := 5 * (6 - o) + 1
def has9 (c : List Int32) : Bool := c.any (fun x => decide (x = 9))
theorem has9_app (a b : List Int32) : has9 (a ++ b) = (has9 a || has9 b) := List.any_append ..
/-- the class's walk went well: code c was laid from step s on -/
def CG (f need a s : Nat) (uw : Bool) (steps : Nat → Int32) (a' s' : Nat) (uw' : Bool) (steps' : Nat → Int32) (c : List Int32) : Prop :=
  a < a' ∧ a' ≤ f ∧ s' = s + c.length ∧ c.length + a ≤ a' ∧ (∀ i, i < s → steps' i = steps i) ∧ (∀ i x, c[i]? = some x → steps' (s + i) = x) ∧ uw' = (uw || has9 c) ∧ (∀ n, n + need ≤ 64 → dpt c n = some (n + 1))
theorem CG.add {f need a0 s : Nat} {uw : Bool} {steps : Nat → Int32} {a' s' : Nat} {uw' : Bool} {steps' : Nat → Int32} {c : List Int32} (h : CG f need a0 s uw steps a' s' uw' steps' c) {a a2 : Nat} (ha : a < a2) (ha2 : a2 ≤ f) (hl : c.length + 1 + a ≤ a2) {need2 : Nat} {v : Int32} (hd : ∀ n, n + need2 ≤ 64 → dpt (c ++ [v]) n = some (n + 1)) :
    CG f need2 a s uw steps a2 (s' + 1) (uw' || decide (v = 9)) (upd steps' s' v) (c ++ [v]) := by
  obtain ⟨h1, h2, h3, h4, h5, h6, h7, h8⟩ := h
  refine ⟨by omega, ha2, by rw [List.length_append, List.length_singleton]; omega, by rw [List.length_append, List.length_singleton]; omega, ?_, ?_, ?_, hd⟩
  · intro i hi
    unfold upd; rw [if_neg (by omega)]; exact h5 i hi
  · intro i x hx
    rw [List.getElem?_append] at hx
    by_cases h9 : i < c.length
    · rw [if_pos h9] at hx
      unfold upd; rw [if_neg (by omega)]; exact h6 i x hx
    · rw [if_neg h9] at hx
      have h10 : i - c.length = 0 := by
        by_cases h11 : i - c.length = 0
        · exact h11
        · rw [List.getElem?_eq_none (by rw [List.length_singleton]; omega)] at hx; cases hx
      rw [h10] at hx
      have : v = x := by simpa using hx
      unfold upd; rw [if_pos (by omega)]; exact this
  · rw [h7, has9_app, Bool.or_assoc]
    congr 1
    show _ = (has9 c || (decide (v = 9) || false))
    rw [Bool.or_false]
/-- one behind the other -/
theorem CG.then {f need a s : Nat} {uw : Bool} {steps : Nat → Int32} {a' s' : Nat} {uw' : Bool} {steps' : Nat → Int32} {c : List Int32} (h : CG f need a s uw steps a' s' uw' steps' c) {a1 need1 : Nat} {a2 s2 : Nat} {uw2 : Bool} {steps2 : Nat → Int32} {c2 : List Int32} (ha : a' ≤ a1) (g : CG f need1 a1 s' uw' steps' a2 s2 uw2 steps2 c2) :
    a < a2 ∧ a2 ≤ f ∧ s2 = s + (c ++ c2).length ∧ (c ++ c2).length + a + (a1 - a') ≤ a2 ∧ (∀ i, i < s → steps2 i = steps i) ∧ (∀ i x, (c ++ c2)[i]? = some x → steps2 (s + i) = x) ∧ uw2 = (uw || has9 (c ++ c2)) := by
  obtain ⟨h1, h2, h3, h4, h5, h6, h7, h8⟩ := h
  obtain ⟨g1, g2, g3, g4, g5, g6, g7, g8⟩ := g
  refine ⟨by omega, g2, by rw [List.length_append]; omega, by rw [List.length_append]; omega, ?_, ?_, ?_⟩
  · intro i hi
    rw [g5 i (by omega)]; exact h5 i hi
  · intro i x hx
    rw [List.getElem?_append] at hx
    by_cases h9 : i < c.length
    · rw [if_pos h9] at hx
      rw [g5 (s + i) (by omega)]; exact h6 i x hx
    · rw [if_neg h9] at hx
      have := g6 (i - c.length) x hx
      rw [show s' + (i - c.length) = s + i by omega] at this
      exact this
  · rw [g7, h7, has9_app, Bool.or_assoc]
/-- an operator behind two operands -/
theorem CG.op {f need a s : Nat} {uw : Bool} {steps : Nat → Int32} {a' s' : Nat} {uw' : Bool} {steps' : Nat → Int32} {c : List Int32} (h : CG f need a s uw steps a' s' uw' steps' c) {need1 : Nat} {a2 s2 : Nat} {uw2 : Bool} {steps2 : Nat → Int32} {c2 : List Int32} (g : CG f need1 (a' + 1) s' uw' steps' a2 s2 uw2 steps2 c2) {v : Int32} (hv : 1 ≤ rk v) (hn : need1 + 1 ≤ need) :
    CG f need a s uw steps a2 (s2 + 1) (uw2 || decide (v = 9)) (upd steps2 s2 v) (c ++ c2 ++ [v]) := by
  obtain ⟨t1, t2, t3, t4, t5, t6, t7⟩ := h.then (Nat.le_succ a') g
  have hd : ∀ n, n + need ≤ 64 → dpt (c ++ c2 ++ [v]) n = some (n + 1) := by
    intro n hn2
    rw [dpt_app, dpt_app, h.2.2.2.2.2.2.2 n hn2, Option.bind_some, g.2.2.2.2.2.2.2 (n + 1) (by omega), Option.bind_some]
    have e1 : ¬ (1000 ≤ v ∨ (0 ≤ v ∧ v < 10)) := by
      rcases rk_cases hv with h | h | h | h | h | h | h | h | h | h <;> subst h <;> decide
    have e2 : ¬ (v = 126 ∨ v = 33) := by
      rcases rk_cases hv with h | h | h | h | h | h | h | h | h | h <;> subst h <;> decide
    unfold dpt
    rw [if_neg e1, if_neg e2, if_pos hv, if_pos (by omega)]
    rfl
  have hlen : (c ++ c2 ++ [v]).length = (c ++ c2).length + 1 := by rw [List.length_append, List.length_singleton]
  refine ⟨t1, t2, by omega, by omega, ?_, ?_, ?_, hd⟩
  · intro i hi
    unfold upd; rw [if_neg (by omega)]; exact t5 i hi
  · intro i x hx
    rw [List.getElem?_append] at hx
    by_cases h9 : i < (c ++ c2).length
    · rw [if_pos h9] at hx
      unfold upd; rw [if_neg (by omega)]; exact t6 i x hx
    · rw [if_neg h9] at hx
      have h10 : i - (c ++ c2).length = 0 := by
        by_cases h11 : i - (c ++ c2).length = 0
        · exact h11
        · rw [List.getElem?_eq_none (by rw [List.length_singleton]; omega)] at hx; cases hx
      rw [h10] at hx
      have : v = x := by simpa using hx
      unfold upd; rw [if_pos (by omega)]; exact this
  · have e : has9 (c ++ c2 ++ [v]) = (has9 (c ++ c2) || decide (v = 9)) := by
      rw [has9_app (c ++ c2) [v]]
      congr 1
      show (decide (v = 9) || false) = _
      rw [Bool.or_false]
    rw [t7, e, Bool.or_assoc]
def TopOk (L : Nat) (W : List Int32) : Prop := ∀ x V, W = x :: V → rk x ≤ L ∧ x ≠ 33 ∧ x ≠ 110
/-- behind a level: what waits, and what can't come -/
def Nx (f : Nat) (tape : Nat → Int32) (L a' : Nat) (pend : List Int32) : Prop :=
  L + 1 ≤ rk (tk f tape a') → rk (tk f tape a') = 3 ∧ ∃ P1 P2, pend = P1 ++ P2 ∧ (∀ x, x ∈ P1 → 3 ≤ rk x) ∧ ∃ x, x ∈ P1 ∧ rk x = 3
def GoOn (f : Nat) (tape : Nat → Int32) (L o a a' : Nat) (c1 pend : List Int32) : Prop :=
  ∀ b p1 asked lF lM lT ls l2 o0 v0 Q K W, b ≤ 480 → TopOk L W → oc W = o → GA f b tape p1 asked lF lM lT ls l2 o0 v0 Q a' (K ++ c1) (pend ++ W) → GE f b tape p1 asked lF lM lT ls l2 o0 v0 Q a K W
def Bad (f : Nat) (tape : Nat → Int32) (L o a pos : Nat) : Prop :=
  ∀ b p1 asked lF lM lT ls l2 o0 v0 Q K W, b ≤ 480 → TopOk L W → oc W = o → QF b asked lF lM lT ls o0 v0 Q pos → GE f b tape p1 asked lF lM lT ls l2 o0 v0 Q a K W
def OutJ (f : Nat) (tape : Nat → Int32) (L o a s : Nat) (uw : Bool) (steps : Nat → Int32) (a' : Nat) (fl' : Int32) (s' : Nat) (uw' : Bool) (steps' : Nat → Int32) : Prop :=
  (fl' = -1 ∧ ∃ c c1 pend, CG f (5 - L + nd o) a s uw steps a' s' uw' steps' c ∧ c = c1 ++ pend ∧ (∀ x, x ∈ pend → L + 1 ≤ rk x) ∧ Nx f tape L a' pend ∧ GoOn f tape L o a a' c1 pend) ∨
  (∃ pos, pos ≤ f ∧ fl' = I pos ∧ Bad f tape L o a pos)
def OutO (f : Nat) (tape : Nat → Int32) (o a s : Nat) (uw : Bool) (steps : Nat → Int32) (a' : Nat) (fl' : Int32) (s' : Nat) (uw' : Bool) (steps' : Nat → Int32) : Prop :=
  (fl' = -1 ∧ ∃ c, CG f (nd o) a s uw steps a' s' uw' steps' c ∧ ∀ b p1 asked lF lM lT ls l2 o0 v0 Q K W, b ≤ 480 → oc W = o → GA f b tape p1 asked lF lM lT ls l2 o0 v0 Q a' (K ++ c ++ uns W) (strp W) → GE f b tape p1 asked lF lM lT ls l2 o0 v0 Q a K W) ∨
  (∃ pos, pos ≤ f ∧ fl' = I pos ∧ ∀ b p1 asked lF lM lT ls l2 o0 v0 Q K W, b ≤ 480 → oc W = o → QF b asked lF lM lT ls o0 v0 Q pos → GE f b tape p1 asked lF lM lT ls l2 o0 v0 Q a K W)
def PJ (f : Nat) (tape : Nat → Int32) (d : Nat) : Prop := ∀ L o a s uw steps, L ≤ 5 → o ≤ 6 → (6 - L) + (7 * (6 - o) + 1) ≤ d → a ≤ f → s ≤ a →
  ∃ a' fl' s' uw' steps', x4_readJoinedR d true (I f) (I a) (-1) tape (I s) uw steps (I L) (I o) = some (I a', fl', I s', uw', steps') ∧ s' ≤ 124 ∧ OutJ f tape L o a s uw steps a' fl' s' uw' steps'
def PO (f : Nat) (tape : Nat → Int32) (d : Nat) : Prop := ∀ o a s uw steps z, o ≤ 6 → 7 * (6 - o) + 1 ≤ d → a ≤ f → s ≤ a →
  ∃ a' fl' s' uw' steps', x4_readJoinedR d false (I f) (I a) (-1) tape (I s) uw steps (I o) z = some (I a', fl', I s', uw', steps') ∧ s' ≤ 124 ∧ OutO f tape o a s uw steps a' fl' s' uw' steps'
theorem pos_ne {pos : Nat} (h : pos ≤ 120) : I pos ≠ -1 := by
  intro h1
  have : (I pos + 1 : Int32) = I 0 := by rw [h1]; decide
  rw [I_succ, I_eq (by omega) (by omega)] at this
  omega
/-- behind a fault nothing happens -/
theorem deadO {f a : Int32} {tape : Nat → Int32} {fl : Int32} (h : fl ≠ -1) (d : Nat) (s : Int32) (uw : Bool) (steps : Nat → Int32) (o z : Int32) :
    x4_readJoinedR (d + 1) false f a fl tape s uw steps o z = some (a, fl, s, uw, steps) := by
  have hfail : x4_fail a fl = some fl := by unfold x4_fail; rw [if_neg h]
  have hdig : x4_isDigit (-1) = some false := by decide
  rw [x4_readJoinedR, x4nextD h, Option.bind_some, if_neg (by decide), x4_readOperand_20, hdig, Option.bind_some, bif_f, if_pos (by decide), hfail, Option.bind_some]
  rw [if_neg (show ¬ ((-1 : Int32) = 40) by decide), if_neg (show ¬ ((-1 : Int32) = 33) by decide), if_neg (show ¬ ((-1 : Int32) = 45) by decide)]
  split <;> rfl
theorem dead34 {f a : Int32} {tape : Nat → Int32} {fl : Int32} (h : fl ≠ -1) (kR : Bool → Int32 → Int32 → Int32 → (Nat → Int32) → Int32 → Bool → (Nat → Int32) → Int32 → Int32 → Option (Int32 × Int32 × Int32 × Bool × (Nat → Int32))) (s : Int32) (uw : Bool) (steps : Nat → Int32) {L : Nat} (hL : L ≤ 5) (o t : Int32) (n : Nat) (i : Int32) :
    x4_readJoined_34 kR f tape (I L) o t (n + 1) a fl s uw steps i = some (a, fl, s, uw, steps) := by
  have hlv : x4_levelOf (-1) = some (-1) := by decide
  rw [x4_readJoined_34, x4nextD h, Option.bind_some, hlv, Option.bind_some, if_neg (show ¬ ((-1 : Int32) = I L) from fun h => pos_ne (pos := L) (by omega) h.symm)]
  split <;> rfl
theorem deadJ {f a : Int32} {tape : Nat → Int32} {fl : Int32} (h : fl ≠ -1) (s : Int32) (uw : Bool) (steps : Nat → Int32) (o : Int32) : ∀ m d L, L + m = 5 → m + 1 < d →
    x4_readJoinedR d true f a fl tape s uw steps (I L) o = some (a, fl, s, uw, steps) := by
  intro m
  induction m with
  | zero =>
    intro d L hL hd
    obtain ⟨d, rfl⟩ : ∃ k, d = k + 2 := ⟨d - 2, by omega⟩
    rw [x4_readJoinedR, if_neg (by show ¬ (I L < I 5); rw [I_lt (by omega) (by omega)]; omega), deadO h, Option.bind_some]
  | succ m ih =>
    intro d L hL hd
    obtain ⟨d, rfl⟩ : ∃ k, d = k + 1 := ⟨d - 1, by omega⟩
    rw [x4_readJoinedR, if_pos (by show I L < I 5; rw [I_lt (by omega) (by omega)]; omega), I_succ, ih d (L + 1) (by omega) (by omega), Option.bind_some]
    have h1 : ∀ t, x4_readJoined_30 (x4_readJoinedR d) f tape (I L) o a fl s uw steps t = some (a, fl, s, uw, steps) := fun t => dead34 h _ s uw steps (by omega) o t 99999 0
    rw [h1, h1]
    split <;> rfl
theorem CG.weaken {f need a0 s : Nat} {uw : Bool} {steps : Nat → Int32} {a' s' : Nat} {uw' : Bool} {steps' : Nat → Int32} {c : List Int32} (h : CG f need a0 s uw steps a' s' uw' steps' c) {a a2 need2 : Nat} (ha : a ≤ a0) (ha' : a' ≤ a2) (ha2 : a2 ≤ f) (hn : need ≤ need2) : CG f need2 a s uw steps a2 s' uw' steps' c := by
  obtain ⟨h1, h2, h3, h4, h5, h6, h7, h8⟩ := h
  exact ⟨by omega, ha2, h3, by omega, h5, h6, h7, fun n hn2 => h8 n (by omega)⟩
theorem CG.single {f need a s a' : Nat} {uw : Bool} {steps : Nat → Int32} {x : Int32} (h1 : a < a') (h2 : a' ≤ f) (hn : 1 ≤ need) (hx : 1000 ≤ x ∨ (0 ≤ x ∧ x < 10)) : CG f need a s uw steps a' (s + 1) (uw || decide (x = 9)) (upd steps s x) [x] := by
  refine ⟨h1, h2, rfl, by rw [List.length_singleton]; omega, ?_, ?_, ?_, ?_⟩
  · intro i hi; unfold upd; rw [if_neg (by omega)]
  · intro i y hy
    have h0 : i = 0 := by
      by_cases h : i = 0
      · exact h
      · rw [List.getElem?_eq_none (by rw [List.length_singleton]; omega)] at hy; cases hy
    subst h0
    have : x = y := by simpa using hy
    unfold upd; rw [if_pos (Nat.add_zero s)]; exact this
  · show _ = (uw || (decide (x = 9) || false)); rw [Bool.or_false]
  · intro n hn2
    unfold dpt; rw [if_pos hx, if_pos (by omega)]; rfl

/-! texts: whole rows of steps -/
theorem wseg {fa steps : Nat → Int32} {z : Nat} (hz : z ≤ 124) : ∀ (c : List Int32) (n a : Nat) (st : List Int32) (stack : Nat → Int32) (m : Nat), a + c.length ≤ z → HasT steps a c → Stk stack st → dpt c st.length = some m → st.length ≤ 64 →
    ∃ stack', x6_worth_4 (I z) steps fa (n + c.length) stack (I st.length) (I a) = x6_worth_4 (I z) steps fa n stack' (I m) (I (a + c.length)) ∧ Stk stack' (ev fa c st) ∧ m ≤ 64 := by
  intro c
  induction c with
  | nil =>
    intro n a st stack m ha hc hS hm h64
    have : st.length = m := by injection hm
    exact ⟨stack, by rw [this]; rfl, hS, by omega⟩
  | cons x c ih =>
    intro n a st stack m ha hc hS hm h64
    obtain ⟨k, h1, h2⟩ := dpt_cons hm
    rw [List.length_cons] at ha
    have hx : steps a = x := hc 0 x rfl
    obtain ⟨s1, e1, q1, q2⟩ := wstep (fa := fa) (steps := steps) (z := z) (a := a) (n := n + c.length) hz (by omega) hx hS h1 h64
    have hl := evs_len (fa := fa) h1
    obtain ⟨s2, e2, q3, q4⟩ := ih n (a + 1) (evs fa x st) s1 m (by omega) (fun i y hy => by
      have := hc (i + 1) y (by rw [List.getElem?_cons_succ]; exact hy)
      rw [show a + 1 + i = a + (i + 1) by omega]; exact this) q1 (by rw [hl]; exact h2) (by omega)
    rw [hl] at e2
    refine ⟨s2, ?_, q3, q4⟩
    rw [List.length_cons, show n + (c.length + 1) = n + c.length + 1 by omega, e1, e2, show a + 1 + c.length = a + (c.length + 1) by omega]
theorem ev_one {fa : Nat → Int32} {c : List Int32} (h : dpt c 0 = some 1) : ev fa c [] = [hd0 (ev fa c [])] := by
  have h1 := ev_len (fa := fa) (c := c) (st := []) (m := 1) h
  cases h2 : ev fa c [] with
  | nil => rw [h2] at h1; cases h1
  | cons x r =>
    rw [h2] at h1
    have : r = [] := by
      cases r with
      | nil => rfl
      | cons y t => rw [List.length_cons, List.length_cons] at h1; omega
    rw [this]; rfl
theorem neg_facts {e : Nat} (h1 : 1 ≤ e) (h2 : e ≤ 124) : ¬ 1000 ≤ -(I e) ∧ -(I e) < 0 ∧ -(I e) ≠ 59 ∧ ¬ 0 ≤ -(I e) ∧ (-(-(I e))) - 1 = I (e - 1) := by
  have ht : (-(I e)).toInt = -(e : Int) := by
    rw [Int32.toInt_neg, I_toInt (by omega), Int.bmod_def]
    omega
  have h0 : (0 : Int32).toInt = 0 := by decide
  have h59 : (59 : Int32).toInt = 59 := by decide
  have h1000 : (1000 : Int32).toInt = 1000 := by decide
  refine ⟨?_, ?_, ?_, ?_, ?_⟩
  · rw [Int32.le_iff_toInt_le, ht, h1000]; omega
  · rw [Int32.lt_iff_toInt_lt, ht, h0]; omega
  · intro h; have := congrArg Int32.toInt h; rw [ht, h59] at this; omega
  · rw [Int32.le_iff_toInt_le, ht, h0]; omega
  · rw [Int32.neg_neg, I_pred h1]
/-- the class: a line's end -/
theorem wend {fa steps : Nat → Int32} {z a n : Nat} (hz : z ≤ 124) (ha : a < z) (hx : steps a = 59) {v : Int32} {stack : Nat → Int32} (hS : Stk stack [v]) : x6_worth_4 (I z) steps fa (n + 1) stack (I 1) (I a) = some (v, stack) := by
  have hv : stack 0 = v := hS.1
  rw [x6_worth_4, if_neg (by rw [I_le (by omega) (by omega)]; omega), if_neg (by show ¬ (I 124 ≤ I a); rw [I_le (by omega) (by omega)]; omega), I_inB (by omega), decide_eq_true (by omega : a < 124), bif_t, I_clamp (by omega), hx, if_neg (by decide), if_neg (by decide), if_pos (by decide), x6_worth_108, if_neg (by decide), if_pos (by decide), if_pos rfl, show inB (I 1 - 1) 64 = true by decide, bif_t, show (I 1 - 1 : Int32).toNatClampNeg = 0 by decide, hv]
/-- the class: what counts if .. -/
theorem wask {fa steps : Nat → Int32} {z a n e : Nat} (hz : z ≤ 124) (ha : a < z) (he1 : a + 1 ≤ e) (he : e ≤ 124) (hx : steps a = -(I e)) {v : Int32} {stack : Nat → Int32} (hS : Stk stack [v]) : x6_worth_4 (I z) steps fa (n + 1) stack (I 1) (I a) = x6_worth_4 (I z) steps fa n stack (I 0) (I (if v = 0 then e else a + 1)) := by
  have hv : stack 0 = v := hS.1
  obtain ⟨f1, f2, f3, f4, f5⟩ := neg_facts (e := e) (by omega) he
  rw [x6_worth_4, if_neg (by rw [I_le (by omega) (by omega)]; omega), if_neg (by show ¬ (I 124 ≤ I a); rw [I_le (by omega) (by omega)]; omega), I_inB (by omega), decide_eq_true (by omega : a < 124), bif_t, I_clamp (by omega), hx, if_neg f1, if_pos f2, x6_worth_108, if_neg (by decide), if_pos (by decide), if_neg f3, if_neg f4, show inB (I 1 + (-1)) 64 = true by decide, bif_t, show (I 1 + (-1) : Int32).toNatClampNeg = 0 by decide, show (I 1 + (-1) : Int32) = I 0 by decide, hv, f5]
  by_cases h0 : v = 0
  · rw [if_pos h0, if_pos h0, x6_worth_268]
    by_cases h1 : a < e - 1
    · rw [if_pos (by rw [I_lt (by omega) (by omega)]; exact h1), I_succ, show e - 1 + 1 = e by omega]
    · rw [if_neg (by rw [I_lt (by omega) (by omega)]; exact h1), I_succ, show a + 1 = e by omega]
  · rw [if_neg h0, if_neg h0, x6_worth_268, I_succ]
theorem HasT.left {steps : Nat → Int32} {s : Nat} {a b : List Int32} (h : HasT steps s (a ++ b)) : HasT steps s a := by
  intro i x hx
  exact h i x (by rw [List.getElem?_append, if_pos (lt_of_get hx)]; exact hx)
theorem HasT.right {steps : Nat → Int32} {s : Nat} {a b : List Int32} (h : HasT steps s (a ++ b)) : HasT steps (s + a.length) b := by
  intro i x hx
  have := h (a.length + i) x (by rw [List.getElem?_append, if_neg (by omega), Nat.add_sub_cancel_left]; exact hx)
  rw [Nat.add_assoc]; exact this
/-- the class: what a text gives -/
theorem wprog {fa steps : Nat → Int32} : ∀ (P : Prog) (n s z : Nat) (stack : Nat → Int32), z ≤ 124 → s + (layC s P).length = z → HasT steps s (layC s P) → (∀ x, x ∈ P → Wf x) → (layC s P).length < n →
    ∃ stack', x6_worth_4 (I z) steps fa n stack (I 0) (I s) = some (evP fa P, stack') := by
  intro P
  induction P with
  | nil =>
    intro n s z stack hz hl hT hW hn
    obtain ⟨n, rfl⟩ : ∃ k, n = k + 1 := ⟨n - 1, by omega⟩
    have : s = z := hl
    exact ⟨stack, by rw [x6_worth_4, if_pos (by rw [I_le (by omega) (by omega)]; omega)]; rfl⟩
  | cons y P ih =>
    intro n s z stack hz hl hT hW hn
    have hlay : layC s (y :: P) = lnC s y ++ layC (s + (lnC s y).length) P := rfl
    rw [hlay, List.length_append] at hl hn
    rw [hlay] at hT
    obtain ⟨w1, w2⟩ := hW y List.mem_cons_self
    have body : ∀ (n' s' : Nat) (stack : Nat → Int32), s' + y.2.length < z → HasT steps s' (y.2 ++ [59]) → y.2.length + 1 < n' → ∃ stack', x6_worth_4 (I z) steps fa n' stack (I 0) (I s') = some (hd0 (ev fa y.2 []), stack') := by
      intro n' s' stack hs' hT' hn'
      obtain ⟨st2, e2, q1, q2⟩ := wseg (fa := fa) hz y.2 (n' - y.2.length) s' [] stack 1 (by omega) hT'.left trivial w2 (by show 0 ≤ 64; omega)
      rw [ev_one w2] at q1
      obtain ⟨k, hk⟩ : ∃ k, n' - y.2.length = k + 1 := ⟨n' - y.2.length - 1, by omega⟩
      have h59 : steps (s' + y.2.length) = 59 := hT'.right 0 59 rfl
      refine ⟨st2, ?_⟩
      rw [show n' - y.2.length + y.2.length = n' by omega] at e2
      have e2' : x6_worth_4 (I z) steps fa n' stack (I 0) (I s') = x6_worth_4 (I z) steps fa (n' - y.2.length) st2 (I 1) (I (s' + y.2.length)) := e2
      rw [e2', hk]
      exact wend hz hs' h59 q1
    by_cases h0 : y.1 = []
    · have hln : lnC s y = y.2 ++ [59] := by unfold lnC; rw [if_pos h0]
      rw [hln, List.length_append, List.length_singleton] at hl hn
      obtain ⟨st2, e2⟩ := body n s stack (by omega) (by have := hT.left; rw [hln] at this; exact this) (by omega)
      refine ⟨st2, ?_⟩
      rw [e2]
      show some (hd0 (ev fa y.2 []), st2) = some (if y.1 = [] ∨ hd0 (ev fa y.1 []) ≠ 0 then hd0 (ev fa y.2 []) else evP fa P, st2)
      rw [if_pos (Or.inl h0)]
    · have hc : dpt y.1 0 = some 1 := by rcases w1 with h | h; exact absurd h h0; exact h
      have hln : lnC s y = y.1 ++ ([-(I (s + y.1.length + y.2.length + 2))] ++ (y.2 ++ [59])) := by unfold lnC; rw [if_neg h0]
      have hlen : (lnC s y).length = y.1.length + y.2.length + 2 := by rw [hln, List.length_append, List.length_append, List.length_append, List.length_singleton, List.length_singleton]; omega
      rw [hlen] at hl hn
      have hT1 := hT.left
      rw [hln] at hT1
      obtain ⟨st1, e1, q1, q2⟩ := wseg (fa := fa) hz y.1 (n - y.1.length) s [] stack 1 (by omega) hT1.left trivial hc (by show 0 ≤ 64; omega)
      rw [ev_one hc] at q1
      rw [show n - y.1.length + y.1.length = n by omega] at e1
      have e1' : x6_worth_4 (I z) steps fa n stack (I 0) (I s) = x6_worth_4 (I z) steps fa (n - y.1.length) st1 (I 1) (I (s + y.1.length)) := e1
      obtain ⟨k, hk⟩ : ∃ k, n - y.1.length = k + 1 := ⟨n - y.1.length - 1, by omega⟩
      have hj : steps (s + y.1.length) = -(I (s + y.1.length + y.2.length + 2)) := hT1.right.left 0 _ rfl
      rw [e1', hk, wask hz (by omega) (by omega) (by omega) hj q1]
      by_cases hv : hd0 (ev fa y.1 []) = 0
      · rw [if_pos hv]
        obtain ⟨st2, e2⟩ := ih k (s + (lnC s y).length) z st1 hz (by rw [hlen]; omega) hT.right (fun x hx => hW x (List.mem_cons_of_mem _ hx)) (by rw [hlen]; omega)
        refine ⟨st2, ?_⟩
        rw [hlen] at e2
        rw [show s + y.1.length + y.2.length + 2 = s + (y.1.length + y.2.length + 2) by omega, e2]
        show some (evP fa P, st2) = some (if y.1 = [] ∨ hd0 (ev fa y.1 []) ≠ 0 then hd0 (ev fa y.2 []) else evP fa P, st2)
        rw [if_neg (by rintro (h | h); exact h0 h; exact h hv)]
      · rw [if_neg hv]
        obtain ⟨st2, e2⟩ := body k (s + y.1.length + 1) st1 (by omega) hT1.right.right (by omega)
        refine ⟨st2, ?_⟩
        rw [e2]
        show some (hd0 (ev fa y.2 []), st2) = some (if y.1 = [] ∨ hd0 (ev fa y.1 []) ≠ 0 then hd0 (ev fa y.2 []) else evP fa P, st2)
        rw [if_pos (Or.inr hv)]
theorem m_worth {size : Int32} {uw : Bool} {steps : Nat → Int32} {P : Prog} (h : TxC size uw steps P) (stack fa : Nat → Int32) : ∃ stack', x6_worth size stack steps fa = some (evP fa P, stack') := by
  obtain ⟨s, hs, rfl, ⟨h1, h2⟩, _, hW, _⟩ := h
  unfold x6_worth
  exact wprog P yN 0 s stack (by omega) (by omega) h2 hW (by unfold yN; omega)
/-- the reference: a step -/
theorem mstep {fa op val : Nat → Int32} {p2 a n : Nat} (ha : a < p2) (hp : p2 ≤ 600) {x : Int32} (ho : op a = opOf x) (hv : val a = vaOf x) {st : List Int32} {pile : Nat → Int32} (hS : Stk pile st) {m : Nat} (hm : dpt [x] st.length = some m) (h64 : st.length ≤ 64) :
    ∃ pile', x9_worked_5 fa op val (I p2) (n + 1) pile (I st.length) (I a) = x9_worked_5 fa op val (I p2) n pile' (I m) (I (a + 1)) ∧ Stk pile' (evs fa x st) ∧ m ≤ 64 := by
  rw [x9_worked_5, if_neg (by rw [I_le (by omega) (by omega)]; omega), I_inB (by omega), decide_eq_true (by omega : a < 600), bif_t, I_clamp (by omega), ho]
  unfold evs
  rcases dpt1 hm with ⟨h1, h2, h3⟩ | ⟨h1, h2, h3, h4, h5⟩ | ⟨h1, h2, h3⟩ | ⟨h1, h2, h3⟩
  · have e1 : opOf x = 0 := by unfold opOf; rw [if_pos h1]
    have e2 : vaOf x = x - 1000 := by unfold vaOf; rw [if_pos h1]
    rw [e1, if_pos rfl, x9_worked_31, if_pos rfl, I_inB (by omega), decide_eq_true (by omega : a < 600), bif_t, I_clamp (by omega), hv, e2, x9_worked_63, I_inB (by omega), decide_eq_true (by omega : st.length < 121), bif_t, x9_worked_162, I_succ, I_succ, I_clamp (by omega), if_pos h1]
    exact ⟨_, by rw [h3], hS.push, by omega⟩
  · have e1 : opOf x = 1 := by unfold opOf; rw [if_neg h1, if_pos h3]
    have e2 : vaOf x = x := by unfold vaOf; rw [if_neg h1, if_pos h3]
    obtain ⟨k, _, hk, e⟩ := In_of (v := x) (a := 0) (b := 9) (by omega) (by omega) (Int32.not_lt.mpr h2) (by
      intro h
      rw [Int32.lt_iff_toInt_lt] at h h3
      have e9 : (I 9).toInt = 9 := I_toInt (by omega)
      have e10 : (10 : Int32).toInt = 10 := by decide
      omega)
    rw [e1, if_neg (show ¬ ((1 : Int32) = 0) by decide), if_pos rfl, x9_worked_31, if_neg (show ¬ ((1 : Int32) = 0) by decide), I_inB (by omega), decide_eq_true (by omega : a < 600), bif_t, I_clamp (by omega), hv, e2, show inB x 10 = true by rw [e, I_inB (by omega)]; exact decide_eq_true (by omega), bif_t, x9_worked_63, I_inB (by omega), decide_eq_true (by omega : st.length < 121), bif_t, x9_worked_162, I_succ, I_succ, I_clamp (by omega), if_neg h1, if_pos ⟨h2, h3⟩]
    exact ⟨_, by rw [h5], hS.push, by omega⟩
  · cases st with
    | nil => exact absurd h2 (by decide)
    | cons b r =>
      rw [List.length_cons] at h2 h3 h64 ⊢
      have hb : pile r.length = b := hS.1
      have hfx : ¬ 1000 ≤ x ∧ ¬ x < 10 := by rcases h1 with h | h <;> subst h <;> decide
      rw [if_neg (show ¬ (1000 ≤ x) from hfx.1), if_neg (show ¬ (0 ≤ x ∧ x < 10) from fun h => hfx.2 h.2)]
      by_cases h4 : x = 126
      · have e1 : opOf x = 110 := by rw [h4]; decide
        simp only [if_pos h4]
        rw [e1, if_neg (show ¬ ((110 : Int32) = 0) by decide), if_neg (show ¬ ((110 : Int32) = 1) by decide), if_neg (show ¬ ((110 : Int32) = 33) by decide), if_pos rfl, I_pred (by omega), Nat.add_sub_cancel, I_inB (by omega), decide_eq_true (by omega : r.length < 121), bif_t, bif_t, I_clamp (by omega), hb, x9_worked_162, I_succ, h3]
        exact ⟨_, rfl, ⟨by unfold upd; rw [if_pos rfl], hS.2.upd_ (Nat.le_refl _)⟩, by omega⟩
      · have h5 : x = 33 := by rcases h1 with h | h; exact absurd h h4; exact h
        have e1 : opOf x = 33 := by rw [h5]; decide
        simp only [if_neg h4, if_pos h5]
        rw [e1, if_neg (show ¬ ((33 : Int32) = 0) by decide), if_neg (show ¬ ((33 : Int32) = 1) by decide), if_pos rfl, I_pred (by omega), Nat.add_sub_cancel, I_inB (by omega), decide_eq_true (by omega : r.length < 121), bif_t, I_clamp (by omega), hb]
        by_cases h0 : b = 0
        · rw [if_pos h0, if_pos h0, x9_worked_100, I_inB (by omega), decide_eq_true (by omega : r.length < 121), bif_t, x9_worked_162, I_succ, I_clamp (by omega), h3]
          exact ⟨_, rfl, ⟨by unfold upd; rw [if_pos rfl], hS.2.upd_ (Nat.le_refl _)⟩, by omega⟩
        · rw [if_neg h0, if_neg h0, x9_worked_100, I_inB (by omega), decide_eq_true (by omega : r.length < 121), bif_t, x9_worked_162, I_succ, I_clamp (by omega), h3]
          exact ⟨_, rfl, ⟨by unfold upd; rw [if_pos rfl], hS.2.upd_ (Nat.le_refl _)⟩, by omega⟩
  · have hf := op_facts h1
    have e1 : opOf x = x := (opOf_op h1).1
    cases st with
    | nil => exact absurd h2 (by decide)
    | cons b r =>
      cases r with
      | nil => exact absurd h2 (by rw [List.length_singleton]; omega)
      | cons c t =>
        rw [List.length_cons, List.length_cons] at h2 h3 h64 ⊢
        have hb : pile (t.length + 1) = b := hS.1
        have hc : pile t.length = c := hS.2.1
        have e2 : I (t.length + 1 + 1) + (-1) = I (t.length + 1) := by
          have : I (t.length + 1 + 1) + (-1) = I (t.length + 1 + 1) - 1 := by rw [Int32.sub_eq_add_neg]
          rw [this, I_pred (by omega), Nat.add_sub_cancel]
        rw [e1, if_neg (show ¬ (x = 0) from hf.2.2.2.2.2.2.2.2.1), if_neg (show ¬ (x = 1) from hf.2.2.2.2.2.2.2.2.2.1), if_neg (show ¬ (x = 33) from hf.2.2.2.2.2.2.1), if_neg (show ¬ (x = 110) from hf.2.2.2.2.2.2.2.2.2.2), e2, I_pred (by omega), Nat.add_sub_cancel, I_inB (by omega), I_inB (by omega), decide_eq_true (by omega : t.length < 121), decide_eq_true (by omega : t.length + 1 < 121), bif_t, bif_t, I_clamp (by omega), I_clamp (by omega), hb, hc, x9both h1, Option.bind_some, bif_t, x9_worked_162, I_succ]
        rw [if_neg (show ¬ (1000 ≤ x) from hf.1), if_neg (show ¬ (0 ≤ x ∧ x < 10) from fun h => hf.2.2.2.2.2.2.2.1 h.2)]
        simp only [if_neg hf.2.2.2.2.2.1, if_neg hf.2.2.2.2.2.2.1]
        exact ⟨_, by rw [h3]; rfl, ⟨by unfold upd; rw [if_pos rfl], hS.2.2.upd_ (Nat.le_refl _)⟩, by omega⟩
def HasM (op val : Nat → Int32) (a : Nat) (c : List Int32) : Prop := ∀ i x, c[i]? = some x → op (a + i) = opOf x ∧ val (a + i) = vaOf x
theorem mseg {fa op val : Nat → Int32} {p2 : Nat} (hp : p2 ≤ 600) : ∀ (c : List Int32) (n a : Nat) (st : List Int32) (pile : Nat → Int32) (m : Nat), a + c.length ≤ p2 → HasM op val a c → Stk pile st → dpt c st.length = some m → st.length ≤ 64 →
    ∃ pile', x9_worked_5 fa op val (I p2) (n + c.length) pile (I st.length) (I a) = x9_worked_5 fa op val (I p2) n pile' (I m) (I (a + c.length)) ∧ Stk pile' (ev fa c st) ∧ m ≤ 64 := by
  intro c
  induction c with
  | nil =>
    intro n a st pile m ha hc hS hm h64
    have : st.length = m := by injection hm
    exact ⟨pile, by rw [this]; rfl, hS, by omega⟩
  | cons x c ih =>
    intro n a st pile m ha hc hS hm h64
    obtain ⟨k, h1, h2⟩ := dpt_cons hm
    rw [List.length_cons] at ha
    have hx := hc 0 x rfl
    obtain ⟨s1, e1, q1, q2⟩ := mstep (fa := fa) (op := op) (val := val) (p2 := p2) (a := a) (n := n + c.length) (by omega) hp hx.1 hx.2 hS h1 h64
    have hl := evs_len (fa := fa) h1
    obtain ⟨s2, e2, q3, q4⟩ := ih n (a + 1) (evs fa x st) s1 m (by omega) (fun i y hy => by
      have := hc (i + 1) y (by rw [List.getElem?_cons_succ]; exact hy)
      rw [show a + 1 + i = a + (i + 1) by omega]; exact this) q1 (by rw [hl]; exact h2) (by omega)
    rw [hl] at e2
    refine ⟨s2, ?_, q3, q4⟩
    rw [List.length_cons, show n + (c.length + 1) = n + c.length + 1 by omega, e1, e2, show a + 1 + c.length = a + (c.length + 1) by omega]
theorem m_worked {fa op val : Nat → Int32} {c : List Int32} {a : Nat} (ha : a + c.length ≤ 600) (hM : HasM op val a c) (hc : dpt c 0 = some 1) (pile : Nat → Int32) : ∃ pile', x9_worked fa op pile val (I a) (I (a + c.length)) = some (hd0 (ev fa c []), pile') := by
  obtain ⟨p1, e1, q1, q2⟩ := mseg (fa := fa) (p2 := a + c.length) ha c (yN - c.length) a [] pile 1 (Nat.le_refl _) hM trivial hc (by show 0 ≤ 64; omega)
  rw [ev_one hc] at q1
  obtain ⟨k, hk⟩ : ∃ k, yN - c.length = k + 1 := ⟨yN - c.length - 1, by unfold yN; omega⟩
  rw [show yN - c.length + c.length = yN by unfold yN; omega] at e1
  have e1' : x9_worked fa op pile val (I a) (I (a + c.length)) = x9_worked_5 fa op val (I (a + c.length)) (yN - c.length) p1 (I 1) (I (a + c.length)) := e1
  have hv : p1 0 = hd0 (ev fa c []) := q1.1
  refine ⟨p1, ?_⟩
  rw [e1', hk, x9_worked_5, if_pos (by rw [I_le (by omega) (by omega)]; omega), show inB 0 121 = true by decide, bif_t, show (0 : Int32).toNatClampNeg = 0 by decide, hv]

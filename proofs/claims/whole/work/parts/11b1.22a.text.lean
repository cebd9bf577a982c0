/-! texts: the bytes to come, ranks, the reference's rows -/
def tk (f : Nat) (tape : Nat → Int32) (a : Nat) : Int32 := if a < f then tape a else -1
theorem x4nextI {f a : Nat} {tape : Nat → Int32} (hf : f ≤ 120) (ha : a ≤ f) : x4_next (I f) (I a) (-1) tape = some (tk f tape a) := by
  have h0 : ¬ (I a < 0) := by show ¬ (I a < I 0); rw [I_lt (by omega) (by omega)]; omega
  unfold x4_next tk
  rw [if_pos rfl, if_neg h0]
  by_cases h : a < f
  · rw [if_neg (by rw [I_le (by omega) (by omega)]; omega), if_pos h, I_inB (by omega), decide_eq_true (by omega : a < 120), bif_t, I_clamp (by omega)]
  · rw [if_pos (by rw [I_le (by omega) (by omega)]; omega), if_neg h]
theorem x4nextD {f : Int32} {a fl : Int32} {tape : Nat → Int32} (h : fl ≠ -1) : x4_next f a fl tape = some (-1) := by
  unfold x4_next; rw [if_neg h]
theorem x9nextI {f a : Nat} {tape : Nat → Int32} (hf : f ≤ 120) (ha : a ≤ f) : x9_next (I f) (I a) tape = some (tk f tape a) := by
  unfold x9_next tk
  by_cases h : a < f
  · rw [if_neg (by rw [I_le (by omega) (by omega)]; omega), if_pos h, I_inB (by omega), decide_eq_true (by omega : a < 120), bif_t, I_clamp (by omega)]
  · rw [if_pos (by rw [I_le (by omega) (by omega)]; omega), if_neg h]
theorem I_pred {n : Nat} (h : 1 ≤ n) : I n - 1 = I (n - 1) := I_sub (b := 1) h
/-- how strongly an operator binds; 0: none -/
def rk (c : Int32) : Nat := if c = 37 then 5 else if c = 38 then 2 else if c = 42 then 5 else if c = 43 then 4 else if c = 45 then 4 else if c = 47 then 5 else if c = 60 then 3 else if c = 61 then 3 else if c = 62 then 3 else if c = 124 then 1 else 0
theorem x9rank (c : Int32) : x9_rank c = some (I (rk c)) := by
  unfold x9_rank rk
  repeat' split
  all_goals rfl
theorem x4level (c : Int32) : x4_levelOf c = some (I (rk c) - 1) := by
  unfold x4_levelOf rk
  repeat' split
  all_goals rfl
theorem rk_le (c : Int32) : rk c ≤ 5 := by
  unfold rk
  repeat' split
  all_goals omega
theorem lv_eq {c : Int32} {L : Nat} (h : L ≤ 5) : (I (rk c) - 1 = I L) ↔ rk c = L + 1 := by
  have h5 := rk_le c
  by_cases h0 : rk c = 0
  · rw [h0]
    constructor
    · intro h1
      exfalso
      have : (I L + 1 : Int32) = I 0 := by rw [← h1]; exact Int32.sub_add_cancel _ _
      rw [I_succ, I_eq (by omega) (by omega)] at this
      omega
    · intro h1; omega
  · rw [I_pred (by omega), I_eq (by omega) (by omega)]; omega
/-- what may stand ahead of an operand and isn't an operator -/
theorem rk_un {x : Int32} (h : x = 33 ∨ x = 110 ∨ x = 40 ∨ x = 41 ∨ x = -1 ∨ x = 63 ∨ x = 59) : rk x = 0 := by
  rcases h with h | h | h | h | h | h | h <;> subst h <;> decide
theorem rk_cases {x : Int32} (h : 1 ≤ rk x) : x = 37 ∨ x = 38 ∨ x = 42 ∨ x = 43 ∨ x = 45 ∨ x = 47 ∨ x = 60 ∨ x = 61 ∨ x = 62 ∨ x = 124 := by
  unfold rk at h
  repeat' split at h
  all_goals first | omega | simp_all
/-- a step's word and number in the reference -/
def opOf (s : Int32) : Int32 := if 1000 ≤ s then 0 else if s < 10 then 1 else if s = 126 then 110 else s
def vaOf (s : Int32) : Int32 := if 1000 ≤ s then s - 1000 else if s < 10 then s else 0
theorem opOf_op {x : Int32} (h : 1 ≤ rk x) : opOf x = x ∧ vaOf x = 0 := by
  rcases rk_cases h with h | h | h | h | h | h | h | h | h | h <;> subst h <;> decide
/-- what waits, the latest first -/
def Stk (wts : Nat → Int32) : List Int32 → Prop
  | [] => True
  | x :: W => wts W.length = x ∧ Stk wts W
def oc : List Int32 → Nat
  | [] => 0
  | x :: W => (if rk x = 0 then 1 else 0) + oc W
def bc : List Int32 → Nat
  | [] => 0
  | x :: W => (if x = 40 then 1 else 0) + bc W
def strp : List Int32 → List Int32
  | [] => []
  | x :: W => if x = 33 ∨ x = 110 then strp W else x :: W
def uns : List Int32 → List Int32
  | [] => []
  | x :: W => if x = 33 ∨ x = 110 then (if x = 33 then 33 else 126) :: uns W else []
theorem oc_le (W : List Int32) : oc W ≤ W.length := by
  induction W with
  | nil => exact Nat.le_refl _
  | cons x W ih => show (if rk x = 0 then 1 else 0) + oc W ≤ W.length + 1; split <;> omega
theorem bc_le (W : List Int32) : bc W ≤ oc W := by
  induction W with
  | nil => exact Nat.le_refl _
  | cons x W ih =>
    show (if x = 40 then 1 else 0) + bc W ≤ (if rk x = 0 then 1 else 0) + oc W
    by_cases h : x = 40
    · subst h; rw [if_pos rfl, if_pos (by decide)]; omega
    · rw [if_neg h]; omega
theorem oc_app {P W : List Int32} (h : ∀ x, x ∈ P → 1 ≤ rk x) : oc (P ++ W) = oc W := by
  induction P with
  | nil => rfl
  | cons x P ih =>
    have h1 := h x (List.mem_cons_self)
    show (if rk x = 0 then 1 else 0) + oc (P ++ W) = oc W
    rw [if_neg (by omega), ih (fun y hy => h y (List.mem_cons_of_mem _ hy))]; omega
theorem bc_app {P W : List Int32} (h : ∀ x, x ∈ P → 1 ≤ rk x) : bc (P ++ W) = bc W := by
  induction P with
  | nil => rfl
  | cons x P ih =>
    have h1 := h x (List.mem_cons_self)
    show (if x = 40 then 1 else 0) + bc (P ++ W) = bc W
    rw [if_neg (by intro h2; rw [h2] at h1; exact absurd h1 (by decide)), ih (fun y hy => h y (List.mem_cons_of_mem _ hy))]; omega
theorem strp_bc (W : List Int32) : bc (strp W) = bc W := by
  induction W with
  | nil => rfl
  | cons x W ih =>
    unfold strp
    by_cases h : x = 33 ∨ x = 110
    · rw [if_pos h, ih]
      show bc W = (if x = 40 then 1 else 0) + bc W
      rw [if_neg (by rcases h with h | h <;> rw [h] <;> decide)]; omega
    · rw [if_neg h]
theorem strp_len (W : List Int32) : (strp W).length + (uns W).length = W.length := by
  induction W with
  | nil => rfl
  | cons x W ih =>
    unfold strp uns
    by_cases h : x = 33 ∨ x = 110
    · rw [if_pos h, if_pos h, List.length_cons, List.length_cons]; omega
    · rw [if_neg h, if_neg h]; rfl
theorem strp_ok {W : List Int32} (h : ∀ x V, W = x :: V → x ≠ 33 ∧ x ≠ 110) : strp W = W ∧ uns W = [] := by
  cases W with
  | nil => exact ⟨rfl, rfl⟩
  | cons x W =>
    have h1 := h x W rfl
    unfold strp uns
    rw [if_neg (by rintro (h | h); exact h1.1 h; exact h1.2 h), if_neg (by rintro (h | h); exact h1.1 h; exact h1.2 h)]
    exact ⟨rfl, rfl⟩
theorem Stk.upd_ {wts : Nat → Int32} {v : Int32} {n : Nat} : ∀ {W : List Int32}, Stk wts W → W.length ≤ n → Stk (upd wts n v) W := by
  intro W
  induction W with
  | nil => intro _ _; trivial
  | cons x W ih =>
    intro h hn
    rw [List.length_cons] at hn
    refine ⟨?_, ih h.2 (by omega)⟩
    unfold upd; rw [if_neg (by omega)]; exact h.1
theorem Stk.push {wts : Nat → Int32} {v : Int32} {W : List Int32} (h : Stk wts W) : Stk (upd wts W.length v) (v :: W) := by
  refine ⟨?_, h.upd_ (Nat.le_refl _)⟩
  unfold upd; rw [if_pos rfl]
theorem Stk.strp_ {wts : Nat → Int32} {W : List Int32} (h : Stk wts W) : Stk wts (strp W) := by
  induction W with
  | nil => trivial
  | cons x W ih =>
    unfold strp
    split
    · exact ih h.2
    · exact h
theorem Stk.drop {wts : Nat → Int32} {P W : List Int32} (h : Stk wts (P ++ W)) : Stk wts W := by
  induction P with
  | nil => exact h
  | cons x P ih => exact ih h.2
/-- the code that lies -/
def Fr (o0 v0 op val : Nat → Int32) (b : Nat) : Prop := ∀ j, (j < b ∨ b + 120 ≤ j) → op j = o0 j ∧ val j = v0 j
def Cod (o0 v0 op val : Nat → Int32) (b : Nat) (K : List Int32) : Prop := (∀ i x, K[i]? = some x → op (b + i) = opOf x ∧ val (b + i) = vaOf x) ∧ Fr o0 v0 op val b
theorem Fr.upd_ {o0 v0 op val : Nat → Int32} {b k : Nat} (h : Fr o0 v0 op val b) (hk : k < 120) (o v : Int32) : Fr o0 v0 (upd op (b + k) o) (upd val (b + k) v) b := by
  intro j hj
  unfold upd; rw [if_neg (by omega), if_neg (by omega)]; exact h j hj
theorem Cod.snoc {o0 v0 op val : Nat → Int32} {b : Nat} {K : List Int32} (h : Cod o0 v0 op val b K) (hK : K.length < 120) {x o v : Int32} (ho : o = opOf x) (hv : v = vaOf x) : Cod o0 v0 (upd op (b + K.length) o) (upd val (b + K.length) v) b (K ++ [x]) := by
  refine ⟨?_, h.2.upd_ hK o v⟩
  intro i y hi
  rw [List.getElem?_append] at hi
  unfold upd
  by_cases h1 : i < K.length
  · rw [if_pos h1] at hi
    rw [if_neg (by omega), if_neg (by omega)]; exact h.1 i y hi
  · rw [if_neg h1] at hi
    have h2 : i = K.length := by
      by_cases h3 : i - K.length = 0
      · omega
      · rw [List.getElem?_eq_none (by rw [List.length_singleton]; omega)] at hi; cases hi
    subst h2
    rw [Nat.sub_self] at hi
    have h3 : x = y := by simpa using hi
    rw [if_pos rfl, if_pos rfl, ho, hv, h3]; exact ⟨rfl, rfl⟩
theorem lay_I {op val : Nat → Int32} {n : Nat} {o v : Int32} (h : n < 600) : x9_lay (I n) op val o v = some (I (n + 1), upd op n o, upd val n v) := by
  unfold x9_lay
  rw [I_inB (by omega), decide_eq_true h, bif_t, bif_t, I_succ, I_clamp (by omega)]
theorem endsOp {o0 v0 : Nat → Int32} {b : Nat} (hb : b ≤ 480) (wts : Nat → Int32) : ∀ (W : List Int32) (n : Nat) (K : List Int32) (op val : Nat → Int32), W.length < n → K.length + W.length ≤ 120 → Stk wts W → Cod o0 v0 op val b K →
    ∃ op' val', x9_endsOperand_0 wts n (I (b + K.length)) (I W.length) (I (oc W)) op val = some (I (b + (K ++ uns W).length), I (strp W).length, I (oc (strp W)), op', val') ∧ Cod o0 v0 op' val' b (K ++ uns W) := by
  intro W
  induction W with
  | nil =>
    intro n K op val hn hK hS hC
    obtain ⟨n, rfl⟩ : ∃ k, n = k + 1 := ⟨n - 1, by omega⟩
    refine ⟨op, val, ?_, ?_⟩
    · rw [x9_endsOperand_0, if_pos (by decide)]
      show _ = some (I (b + (K ++ []).length), _)
      rw [List.append_nil]; rfl
    · show Cod o0 v0 op val b (K ++ []); rw [List.append_nil]; exact hC
  | cons x W ih =>
    intro n K op val hn hK hS hC
    obtain ⟨n, rfl⟩ : ∃ k, n = k + 1 := ⟨n - 1, by omega⟩
    rw [List.length_cons] at hK hn
    have h0 : ¬ (I (W.length + 1) ≤ 0) := by show ¬ (I _ ≤ I 0); rw [I_le (by omega) (by omega)]; omega
    have hm : I (W.length + 1) - 1 = I W.length := I_pred (by omega)
    have hi : inB (I W.length) 121 = true := by rw [I_inB (by omega)]; exact decide_eq_true (by omega)
    have hw : wts W.length = x := hS.1
    rw [x9_endsOperand_0, List.length_cons, if_neg h0, hm, hi, bif_t, I_clamp (by omega), hw]
    have step : ∀ y : Int32, (x = 33 ∧ y = 33) ∨ (x = 110 ∧ y = 126) → ∃ op' val', x9_endsOperand_39 (fun z0 z1 z2 z3 z4 => x9_endsOperand_0 wts n z0 z1 z2 z3 z4) wts (I (b + K.length)) (I (W.length + 1)) (I (oc (x :: W))) op val = some (I (b + (K ++ y :: uns W).length), I (strp W).length, I (oc (strp W)), op', val') ∧ Cod o0 v0 op' val' b (K ++ y :: uns W) := by
      intro y hy
      have ho : x = opOf y ∧ (0 : Int32) = vaOf y ∧ rk x = 0 := by
        rcases hy with ⟨h1, h2⟩ | ⟨h1, h2⟩ <;> subst h1 <;> subst h2 <;> decide
      have hoc : I (oc (x :: W)) - 1 = I (oc W) := by
        show I ((if rk x = 0 then 1 else 0) + oc W) - 1 = _
        rw [if_pos ho.2.2, Nat.add_comm, I_pred (by omega)]; rfl
      rw [x9_endsOperand_39, hm, hi, bif_t, I_clamp (by omega), hw, lay_I (by omega), Option.bind_some, hoc]
      obtain ⟨op', val', e, q⟩ := ih n (K ++ [y]) (upd op (b + K.length) x) (upd val (b + K.length) 0) (by omega) (by rw [List.length_append, List.length_singleton]; omega) hS.2 (hC.snoc (by omega) ho.1 ho.2.1)
      rw [List.append_assoc, List.singleton_append] at e q
      refine ⟨op', val', ?_, q⟩
      rw [← e, List.length_append, List.length_singleton]; rfl
    by_cases h1 : x = 33
    · rw [if_pos h1]
      unfold strp uns
      rw [if_pos (Or.inl h1), if_pos (Or.inl h1), if_pos h1]
      exact step 33 (Or.inl ⟨h1, rfl⟩)
    · rw [if_neg h1]
      by_cases h2 : x = 110
      · rw [if_pos h2]
        unfold strp uns
        rw [if_pos (Or.inr h2), if_pos (Or.inr h2), if_neg h1]
        exact step 126 (Or.inr ⟨h2, rfl⟩)
      · rw [if_neg h2]
        have hs := strp_ok (W := x :: W) (fun y V he => by injection he with e1 e2; rw [← e1]; exact ⟨h1, h2⟩)
        rw [hs.1, hs.2, List.append_nil]
        exact ⟨op, val, rfl, hC⟩
/-- operators that bind as strongly go -/
theorem goesD {o0 v0 : Nat → Int32} {b r : Nat} (hb : b ≤ 480) (hr : 1 ≤ r) (hr5 : r ≤ 5) (wts : Nat → Int32) {W : List Int32} (hW : ∀ x V, W = x :: V → rk x < r) : ∀ (P : List Int32) (n : Nat) (K : List Int32) (op val : Nat → Int32), P.length + W.length < n → K.length + (P ++ W).length ≤ 120 → Stk wts (P ++ W) → Cod o0 v0 op val b K → (∀ x, x ∈ P → r ≤ rk x) → (r = 3 → ∀ x, x ∈ P → rk x ≠ 3) →
    ∃ op' val', x9_goesDown_0 wts (I r) n (I (b + K.length)) (I (P ++ W).length) op val = some (true, I (b + (K ++ P).length), I W.length, op', val') ∧ Cod o0 v0 op' val' b (K ++ P) := by
  intro P
  induction P with
  | nil =>
    intro n K op val hn hK hS hC hP h3
    obtain ⟨n, rfl⟩ : ∃ k, n = k + 1 := ⟨n - 1, by omega⟩
    rw [List.append_nil]
    refine ⟨op, val, ?_, hC⟩
    rw [List.nil_append] at hK hS ⊢
    rw [x9_goesDown_0]
    cases W with
    | nil => rw [if_pos (by decide)]
    | cons x W =>
      rw [List.length_cons] at hK hn ⊢
      have h0 : ¬ (I (W.length + 1) ≤ 0) := by show ¬ (I _ ≤ I 0); rw [I_le (by omega) (by omega)]; omega
      have hi : inB (I W.length) 121 = true := by rw [I_inB (by omega)]; exact decide_eq_true (by omega)
      rw [if_neg h0, I_pred (by omega), Nat.add_sub_cancel, hi, bif_t, I_clamp (by omega), hS.1, x9rank, Option.bind_some]
      have := hW x W rfl
      have h5 := rk_le x
      rw [if_pos (by rw [I_lt (by omega) (by omega)]; exact this)]
  | cons x P ih =>
    intro n K op val hn hK hS hC hP h3
    obtain ⟨n, rfl⟩ : ∃ k, n = k + 1 := ⟨n - 1, by omega⟩
    rw [List.cons_append, List.length_cons] at hK
    rw [List.length_cons] at hn
    have hx := hP x List.mem_cons_self
    have h5 := rk_le x
    have h0 : ¬ (I ((P ++ W).length + 1) ≤ 0) := by show ¬ (I _ ≤ I 0); rw [I_le (by omega) (by omega)]; omega
    have hm : I ((P ++ W).length + 1) - 1 = I (P ++ W).length := I_pred (by omega)
    have hi : inB (I (P ++ W).length) 121 = true := by rw [I_inB (by omega)]; exact decide_eq_true (by omega)
    have hw : wts (P ++ W).length = x := hS.1
    have ho := opOf_op (x := x) (by omega)
    obtain ⟨op', val', e, q⟩ := ih n (K ++ [x]) (upd op (b + K.length) x) (upd val (b + K.length) 0) (by omega) (by rw [List.length_append, List.length_singleton]; omega) hS.2 (hC.snoc (by omega) ho.1.symm ho.2.symm) (fun y hy => hP y (List.mem_cons_of_mem _ hy)) (fun h y hy => h3 h y (List.mem_cons_of_mem _ hy))
    rw [List.append_assoc, List.singleton_append] at e q
    refine ⟨op', val', ?_, q⟩
    have key : x9_goesDown_52 (fun z0 z1 z2 z3 => x9_goesDown_0 wts (I r) n z0 z1 z2 z3) wts (I r) (I (b + K.length)) (I ((P ++ W).length + 1)) op val = some (true, I (b + (K ++ x :: P).length), I W.length, op', val') := by
      rw [x9_goesDown_52, hm, hi, bif_t, I_clamp (by omega), hw, lay_I (by omega), Option.bind_some, ← e, show (K ++ [x]).length = K.length + 1 by rw [List.length_append, List.length_singleton]]; rfl
    rw [x9_goesDown_0, List.cons_append, List.length_cons, if_neg h0, hm, hi, bif_t, I_clamp (by omega), hw, x9rank, Option.bind_some, if_neg (by rw [I_lt (by omega) (by omega)]; omega)]
    by_cases h33 : r = 3
    · have := h3 h33 x List.mem_cons_self
      rw [if_pos (by rw [h33]; rfl), bif_t, Option.bind_some, if_neg (by show ¬ (I (rk x) = I 3); rw [I_eq (by omega) (by omega)]; exact this)]
      exact key
    · rw [if_neg (by show ¬ (I r = I 3); rw [I_eq (by omega) (by omega)]; exact h33)]
      exact key
/-- a comparison behind another one -/
theorem goesDno {o0 v0 : Nat → Int32} {b : Nat} (hb : b ≤ 480) (wts : Nat → Int32) {W : List Int32} : ∀ (P : List Int32) (n : Nat) (K : List Int32) (op val : Nat → Int32), P.length + W.length < n → K.length + (P ++ W).length ≤ 120 → Stk wts (P ++ W) → Fr o0 v0 op val b → (∀ x, x ∈ P → 3 ≤ rk x) → (∃ x, x ∈ P ∧ rk x = 3) →
    ∃ c w op' val', x9_goesDown_0 wts (I 3) n (I (b + K.length)) (I (P ++ W).length) op val = some (false, c, w, op', val') ∧ Fr o0 v0 op' val' b := by
  intro P
  induction P with
  | nil => intro n K op val hn hK hS hF hP ⟨x, hx, _⟩; cases hx
  | cons x P ih =>
    intro n K op val hn hK hS hF hP h3
    obtain ⟨n, rfl⟩ : ∃ k, n = k + 1 := ⟨n - 1, by omega⟩
    rw [List.cons_append, List.length_cons] at hK
    rw [List.length_cons] at hn
    have hx := hP x List.mem_cons_self
    have h5 := rk_le x
    have h0 : ¬ (I ((P ++ W).length + 1) ≤ 0) := by show ¬ (I _ ≤ I 0); rw [I_le (by omega) (by omega)]; omega
    have hm : I ((P ++ W).length + 1) - 1 = I (P ++ W).length := I_pred (by omega)
    have hi : inB (I (P ++ W).length) 121 = true := by rw [I_inB (by omega)]; exact decide_eq_true (by omega)
    have hw : wts (P ++ W).length = x := hS.1
    rw [x9_goesDown_0, List.cons_append, List.length_cons, if_neg h0, hm, hi, bif_t, I_clamp (by omega), hw, x9rank, Option.bind_some, if_neg (by rw [I_lt (by omega) (by omega)]; omega), if_pos (show I 3 = 3 from rfl), bif_t, Option.bind_some]
    by_cases h33 : rk x = 3
    · rw [if_pos (show I (rk x) = 3 by rw [h33]; rfl)]
      exact ⟨_, _, _, _, rfl, hF⟩
    · rw [if_neg (by show ¬ (I (rk x) = I 3); rw [I_eq (by omega) (by omega)]; exact h33), x9_goesDown_52, hm, hi, bif_t, I_clamp (by omega), hw, lay_I (by omega), Option.bind_some]
      obtain ⟨y, hy, hy3⟩ := h3
      have hy' : y ∈ P := by
        rcases List.mem_cons.mp hy with h | h
        · rw [h] at hy3; exact absurd hy3 h33
        · exact h
      obtain ⟨c, w, op', val', e, q⟩ := ih n (K ++ [x]) (upd op (b + K.length) x) (upd val (b + K.length) 0) (by omega) (by rw [List.length_append, List.length_singleton]; omega) hS.2 (hF.upd_ (by omega) x 0) (fun y hy => hP y (List.mem_cons_of_mem _ hy)) ⟨y, hy', hy3⟩
      rw [List.length_append, List.length_singleton] at e
      exact ⟨c, w, op', val', e, q⟩

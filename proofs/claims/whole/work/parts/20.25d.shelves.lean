/-! bodies, shelves -/
def BodOk (nb : Nat) (x22 m24 x23 m25 : Int32) (kinds trace mk mt : Nat → Int32) : Prop :=
  nb ≤ 50 ∧ x22 = I nb ∧ m24 = I nb ∧ mk = kinds ∧ mt = trace ∧ m25 = x23 ∧ (∃ r, r ≤ 24 ∧ x23 = I r) ∧ ∀ j, j < nb → In (kinds j) 0 7
theorem has_is {nb : Nat} (h : nb ≤ 50) (p : Int32) : (∃ k, k < nb ∧ p = I k ∧ x0_has (I nb) p = some true ∧ x9_within p 0 (I nb - 1) = some true) ∨ (x0_has (I nb) p = some false ∧ x9_within p 0 (I nb - 1) = some false ∧ ∀ k, k < nb → p ≠ I k) := by
  have e1 : (I nb - 1 : Int32).toInt = (nb : Int) - 1 := by
    rw [Int32.toInt_sub, I_toInt (by omega), show (1 : Int32).toInt = 1 by decide, Int.bmod_def]; omega
  unfold x0_has x9_within
  rcases I_or p with ⟨k, hk, rfl⟩ | hp
  · have h0 : ¬ (I k < 0) := by show ¬ (I k < I 0); rw [I_lt (by omega) (by omega)]; omega
    rw [if_neg h0, if_neg h0]
    by_cases q : k < nb
    · refine Or.inl ⟨k, q, rfl, ?_, ?_⟩
      · rw [if_neg (by rw [I_le (by omega) (by omega)]; omega), if_neg (by show ¬ (I 50 ≤ _); rw [I_le (by omega) (by omega)]; omega)]
      · rw [if_neg (by rw [Int32.lt_iff_toInt_lt, e1, I_toInt (by omega)]; omega)]
    · refine Or.inr ⟨?_, ?_, fun j hj he => ?_⟩
      · rw [if_pos (by rw [I_le (by omega) (by omega)]; omega)]
      · rw [if_pos (by rw [Int32.lt_iff_toInt_lt, e1, I_toInt (by omega)]; omega)]
      · rw [I_eq (by omega) (by omega)] at he; omega
  · refine Or.inr ⟨by rw [if_pos hp], by rw [if_pos hp], fun j hj he => ?_⟩
    rw [he] at hp
    have : ¬ (I j < 0) := by show ¬ (I j < I 0); rw [I_lt (by omega) (by omega)]; omega
    exact this hp
theorem kind_is {v : Int32} (h : In v 0 7) : v = 0 ∨ v = 1 ∨ v = 2 ∨ v = 3 ∨ v = 4 ∨ v = 5 ∨ v = 6 ∨ v = 7 := by
  obtain ⟨k, _, hk, rfl⟩ := h
  have : k = 0 ∨ k = 1 ∨ k = 2 ∨ k = 3 ∨ k = 4 ∨ k = 5 ∨ k = 6 ∨ k = 7 := by omega
  rcases this with h | h | h | h | h | h | h | h <;> subst h <;> simp [I]
theorem m_body {nb : Nat} {x22 m24 x23 m25 : Int32} {kinds trace mk mt : Nat → Int32} (h : BodOk nb x22 m24 x23 m25 kinds trace mk mt) (p : Int32) :
    ∃ r a k' mk' nb', nb ≤ nb' ∧ x8_body x22 kinds p = some (r, a, k') ∧ x9_body m24 mk p = some (r, a, mk') ∧ BodOk nb' a a x23 m25 k' trace mk' mt := by
  have h' := h
  obtain ⟨h1, rfl, rfl, rfl, h4, h5, h6, h7⟩ := h'
  unfold x8_body x0_add x9_body x9_within
  by_cases q1 : p < 0
  · rw [if_pos q1, if_pos q1]; exact ⟨-1, _, _, _, nb, Nat.le_refl _, rfl, rfl, h⟩
  · rw [if_neg q1, if_neg q1]
    by_cases q2 : 7 < p
    · have q3 : ¬ p < 8 := by
        rw [Int32.lt_iff_toInt_lt] at q2 ⊢
        have : (7 : Int32).toInt = 7 := by decide
        have : (8 : Int32).toInt = 8 := by decide
        omega
      rw [if_pos q2, if_neg q3]; exact ⟨-1, _, _, _, nb, Nat.le_refl _, rfl, rfl, h⟩
    · have q3 : p < 8 := by
        rw [Int32.lt_iff_toInt_lt] at q2 ⊢
        have : (7 : Int32).toInt = 7 := by decide
        have : (8 : Int32).toInt = 8 := by decide
        omega
      have hp := In_of (v := p) (a := 0) (b := 7) (by omega) (by omega) q1 q2
      rw [if_neg q2, if_pos q3, if_neg (by show ¬ (I nb < I 0); rw [I_lt (by omega) (by omega)]; omega), Option.bind_some, bif_t]
      by_cases q4 : nb = 50
      · rw [if_neg (by show ¬ (I nb < I 50); rw [I_lt (by omega) (by omega)]; omega), if_pos (by rw [q4]; rfl)]
        exact ⟨-3, _, _, _, nb, Nat.le_refl _, rfl, rfl, h⟩
      · rw [if_pos (by show I nb < I 50; rw [I_lt (by omega) (by omega)]; omega), if_neg (by show ¬ (I nb = I 50); rw [I_eq (by omega) (by omega)]; exact q4), I_inB (by omega), decide_eq_true (by omega : nb < 50), bif_t, Option.bind_some, I_succ, I_clamp (by omega)]
        refine ⟨_, _, _, _, nb + 1, by omega, rfl, rfl, by omega, rfl, rfl, rfl, h4, h5, h6, fun j hj => ?_⟩
        show In (upd mk nb p j) 0 7
        unfold upd; split
        · exact hp
        · exact h7 j (by omega)
theorem m_trace {nb : Nat} {x22 m24 x23 m25 : Int32} {kinds trace mk mt : Nat → Int32} (h : BodOk nb x22 m24 x23 m25 kinds trace mk mt) (p : Int32) : ∃ r, x8_trace x23 trace p = some r ∧ x9_trace m25 mt p = some r := by
  obtain ⟨_, _, _, _, rfl, rfl, _⟩ := h
  unfold x8_trace x0_traced x9_trace x9_within
  by_cases q1 : p < 0
  · rw [if_pos q1, if_pos q1]; exact ⟨-1, rfl, rfl⟩
  · rw [if_neg q1, if_neg q1]
    by_cases q2 : 23 < p
    · have q3 : (24 : Int32) ≤ p := by
        rw [Int32.lt_iff_toInt_lt] at q2; rw [Int32.le_iff_toInt_le]
        have : (23 : Int32).toInt = 23 := by decide
        have : (24 : Int32).toInt = 24 := by decide
        omega
      rw [if_pos q2, if_pos q3]
      split <;> exact ⟨-1, rfl, rfl⟩
    · have q3 : ¬ (24 : Int32) ≤ p := by
        rw [Int32.lt_iff_toInt_lt] at q2; rw [Int32.le_iff_toInt_le]
        have : (23 : Int32).toInt = 23 := by decide
        have : (24 : Int32).toInt = 24 := by decide
        omega
      obtain ⟨k, _, hk, rfl⟩ := In_of (v := p) (a := 0) (b := 23) (by omega) (by omega) q1 q2
      rw [if_neg q2, if_neg q3, Option.bind_some, bif_t, I_inB (by omega), decide_eq_true (by omega : k < 24), bif_t]
      split
      · exact ⟨-1, rfl, rfl⟩
      · exact ⟨_, rfl, rfl⟩
/-- a shelf -/
def ShOk (s : Nat) (sort body size : Int32) (cells : Nat → Int64) (held len : Nat → Int32) (el : Nat → Int64) (nb : Nat) : Prop :=
  (sort = -1 ∧ held s = -1) ∨ (sort = 5 ∧ ∃ b, b < nb ∧ body = I b ∧ held s = I b) ∨ (∃ q, q ≤ 4 ∧ sort = I q ∧ held s = -2 - I q ∧ ∃ n, n ≤ 60 ∧ size = I n ∧ len s = I n ∧ ∀ k, k < n → cells k = el (60 * s + k))
theorem ShOk.frame {s : Nat} {sort body size : Int32} {cells : Nat → Int64} {held len held' len' : Nat → Int32} {el el' : Nat → Int64} {nb nb' : Nat} (h : ShOk s sort body size cells held len el nb) (h1 : held' s = held s) (h2 : len' s = len s) (h3 : ∀ k, k < 60 → el' (60 * s + k) = el (60 * s + k)) (h4 : nb ≤ nb') : ShOk s sort body size cells held' len' el' nb' := by
  rcases h with ⟨a1, a2⟩ | ⟨a1, b, a2, a3, a4⟩ | ⟨q, a1, a2, a3, n, a4, a5, a6, a7⟩
  · exact Or.inl ⟨a1, by rw [h1]; exact a2⟩
  · exact Or.inr (Or.inl ⟨a1, b, by omega, a3, by rw [h1]; exact a4⟩)
  · exact Or.inr (Or.inr ⟨q, a1, a2, by rw [h1]; exact a3, n, a4, a5, by rw [h2]; exact a6, fun k hk => by rw [h3 k (by omega)]; exact a7 k hk⟩)
theorem negq {q : Nat} (h : q ≤ 4) : (-2 - I q : Int32) ≠ -1 ∧ ¬ ((-1 : Int32) ≤ -2 - I q) ∧ (-2 - (-2 - I q) : Int32) = I q ∧ (I q : Int32) ≠ -1 ∧ ¬ (I q < 0) ∧ ¬ ((4 : Int32) < I q) ∧ ¬ (I q = 5) := by
  have : q = 0 ∨ q = 1 ∨ q = 2 ∨ q = 3 ∨ q = 4 := by omega
  rcases this with h | h | h | h | h <;> subst h <;> decide
theorem negb {b : Nat} (h : b < 50) : I b ≠ -1 ∧ (-1 : Int32) ≤ I b ∧ inB (I b) 50 = true := by
  refine ⟨pos_ne (by omega), ?_, by rw [I_inB (by omega)]; exact decide_eq_true h⟩
  rw [Int32.le_iff_toInt_le, I_toInt (by omega), show (-1 : Int32).toInt = -1 by decide]; omega
theorem shI {s : Nat} (h : s < 6) : x9_isShelf (I s) = some true ∧ x8_shelfAt_i (I s) = some () ∧ inB (I s) 6 = true ∧ (I s).toNatClampNeg = s := by
  have : s = 0 ∨ s = 1 ∨ s = 2 ∨ s = 3 ∨ s = 4 ∨ s = 5 := by omega
  rcases this with h | h | h | h | h | h <;> subst h <;> exact ⟨by decide, by decide, by decide, by decide⟩
theorem shO {p : Int32} (h0 : p ≠ 0) (h1 : p ≠ 1) (h2 : p ≠ 2) (h3 : p ≠ 3) (h4 : p ≠ 4) (h5 : p ≠ 5) : x9_isShelf p = some false ∧ x8_shelfAt_o p = some () := by
  rw [ne_eq, ← Int32.toInt_inj] at h0 h1 h2 h3 h4 h5
  have a0 : (0 : Int32).toInt = 0 := by decide
  have a1 : (1 : Int32).toInt = 1 := by decide
  have a2 : (2 : Int32).toInt = 2 := by decide
  have a3 : (3 : Int32).toInt = 3 := by decide
  have a4 : (4 : Int32).toInt = 4 := by decide
  have a5 : (5 : Int32).toInt = 5 := by decide
  have a6 : (6 : Int32).toInt = 6 := by decide
  unfold x9_isShelf x9_within x8_shelfAt_o
  by_cases q : p < 0
  · rw [if_pos q, if_pos q]; exact ⟨rfl, rfl⟩
  · have q6 : (6 : Int32) ≤ p := by
      rw [Int32.lt_iff_toInt_lt] at q; rw [Int32.le_iff_toInt_le]; omega
    have q5 : (5 : Int32) < p := by
      rw [Int32.lt_iff_toInt_lt] at q ⊢; omega
    rw [if_neg q, if_neg q, if_pos q5, if_pos q6]; exact ⟨rfl, rfl⟩
theorem m_keep {s nb : Nat} (hs : s < 6) (hnb : nb ≤ 50) {sort body size : Int32} {cells : Nat → Int64} {held len : Nat → Int32} {el : Nat → Int64} (h : ShOk s sort body size cells held len el nb) (p : Int32) :
    ∃ r sort' body' held', x8_keep_i (I nb) sort body (I s) p = some (r, sort', body') ∧ x9_keep (I nb) held (I s) p = some (r, held') ∧ ShOk s sort' body' size cells held' len el nb ∧ ∀ t, t ≠ s → held' t = held t := by
  obtain ⟨i1, i2, i3, i4⟩ := shI hs
  have hpr : x9_within p (-1) (I nb - 1) = (if p = -1 then some true else x9_within p 0 (I nb - 1)) := by
    have e1 : (I nb - 1 : Int32).toInt = (nb : Int) - 1 := by
      rw [Int32.toInt_sub, I_toInt (by omega), show (1 : Int32).toInt = 1 by decide, Int.bmod_def]; omega
    have a0 : (0 : Int32).toInt = 0 := by decide
    have am : (-1 : Int32).toInt = -1 := by decide
    unfold x9_within
    by_cases q : p = -1
    · rw [if_pos q, if_neg (by rw [q]; decide), if_neg]
      rw [Int32.lt_iff_toInt_lt, e1, q, am]; omega
    · rw [if_neg q]
      by_cases q2 : p < 0
      · rw [if_pos q2, if_pos]
        rw [← Int32.toInt_inj] at q
        rw [Int32.lt_iff_toInt_lt] at q2 ⊢; omega
      · rw [if_neg q2, if_neg]
        rw [Int32.lt_iff_toInt_lt] at q2 ⊢; omega
  unfold x8_keep_i x8_keep_i_28 x5_takeBody x9_keep
  rw [i1, i2, i3, i4, hpr, Option.bind_some, Option.bind_some, bif_t]
  have hfr : ∀ v, ∀ t, t ≠ s → upd held s v t = held t := fun v t ht => by unfold upd; rw [if_neg ht]
  by_cases q : p = -1
  · rw [if_pos q, if_pos q, if_neg (by rw [q]; decide), Option.bind_some, Option.bind_some, bif_t, bif_t]
    exact ⟨1, _, _, _, rfl, rfl, Or.inl ⟨rfl, by unfold upd; rw [if_pos rfl, q]⟩, hfr p⟩
  · rw [if_neg q, if_neg q]
    rcases has_is hnb p with ⟨k, hk, rfl, e1, e2⟩ | ⟨e1, e2, _⟩
    · rw [e1, e2, Option.bind_some, Option.bind_some, bif_t, bif_t, bif_t, if_pos (by show I 0 ≤ I k; rw [I_le (by omega) (by omega)]; omega), Option.bind_some]
      exact ⟨1, _, _, _, rfl, rfl, Or.inr (Or.inl ⟨rfl, k, hk, rfl, by unfold upd; rw [if_pos rfl]⟩), hfr _⟩
    · rw [e1, e2, Option.bind_some, Option.bind_some, bif_f, bif_f]
      exact ⟨-1, _, _, _, rfl, rfl, h, fun _ _ => rfl⟩
theorem fill60 (p : Int64) : ∀ m n x (a : Nat → Int64), x + m = 60 → m < n → (∀ v, v < x → a v = p) → ∃ a', xj7_fill_d0a16_6 p 60 n a (I x) = some a' ∧ ∀ v, v < 60 → a' v = p := by
  intro m
  induction m with
  | zero =>
    intro n x a hx hn ha
    obtain ⟨n, rfl⟩ : ∃ k, n = k + 1 := ⟨n - 1, by omega⟩
    refine ⟨a, ?_, fun v hv => ha v (by omega)⟩
    rw [xj7_fill_d0a16_6, if_pos (by show I 60 ≤ I x; rw [I_le (by omega) (by omega)]; omega)]
  | succ m ih =>
    intro n x a hx hn ha
    obtain ⟨n, rfl⟩ : ∃ k, n = k + 1 := ⟨n - 1, by omega⟩
    have i1 : inB (I x) 60 = true := by rw [I_inB (by omega)]; exact decide_eq_true (by omega)
    rw [xj7_fill_d0a16_6, if_neg (by show ¬ (I 60 ≤ I x); rw [I_le (by omega) (by omega)]; omega), i1, I_succ, I_clamp (by omega)]
    exact ih n (x + 1) (vp_updL a x p) (by omega) (by omega) (fun v hv => by unfold vp_updL; split; rfl; exact ha v (by omega))
theorem row53 {s : Nat} (hs : s < 6) (held len : Nat → Int32) : ∀ m n x (el : Nat → Int64), x + m = 60 → m < n → ∃ el', x9_row_53 held len (I s) n el (I x) = some (1, el', held, len) ∧ (∀ v, x ≤ v → v < 60 → el' (60 * s + v) = 0) ∧ (∀ j, ¬ (60 * s + x ≤ j ∧ j < 60 * s + 60) → el' j = el j) := by
  intro m
  induction m with
  | zero =>
    intro n x el hx hn
    obtain ⟨n, rfl⟩ : ∃ k, n = k + 1 := ⟨n - 1, by omega⟩
    exact ⟨el, by rw [x9_row_53, if_pos (by show I 60 ≤ I x; rw [I_le (by omega) (by omega)]; omega)], fun v h1 h2 => by omega, fun _ _ => rfl⟩
  | succ m ih =>
    intro n x el hx hn
    obtain ⟨n, rfl⟩ : ∃ k, n = k + 1 := ⟨n - 1, by omega⟩
    have e : (60 : Int32) * I s + I x = I (60 * s + x) := by show I 60 * I s + I x = _; rw [I_mul, I_add]
    obtain ⟨el', e1, h1, h2⟩ := ih n (x + 1) (vp_updL el (60 * s + x) 0) (by omega) (by omega)
    refine ⟨el', ?_, fun v hv1 hv2 => ?_, fun j hj => ?_⟩
    · rw [x9_row_53, if_neg (by show ¬ (I 60 ≤ I x); rw [I_le (by omega) (by omega)]; omega), e, I_inB (by omega), decide_eq_true (by omega : 60 * s + x < 360), bif_t, I_clamp (by omega), I_succ]
      exact e1
    · by_cases q : v = x
      · rw [q, h2 _ (by omega)]; unfold vp_updL; rw [if_pos rfl]
      · exact h1 v (by omega) hv2
    · rw [h2 j (by omega)]
      unfold vp_updL; rw [if_neg (by omega)]
theorem m_row {s nb : Nat} (hs : s < 6) {sort body size : Int32} {cells : Nat → Int64} {held len : Nat → Int32} {el : Nat → Int64} (h : ShOk s sort body size cells held len el nb) (p n : Int32) :
    ∃ r sort' body' size' cells' held' len' el', x8_row_i sort body size cells (I s) p n = some (r, sort', body', size', cells') ∧ x9_row el held len (I s) p n = some (r, el', held', len') ∧ ShOk s sort' body' size' cells' held' len' el' nb ∧ ∀ t, t ≠ s → held' t = held t ∧ len' t = len t ∧ ∀ k, k < 60 → el' (60 * t + k) = el (60 * t + k) := by
  obtain ⟨i1, i2, i3, i4⟩ := shI hs
  unfold x8_row_i x9_row x9_within
  rw [i1, i2, i3, i4, Option.bind_some, Option.bind_some, bif_t]
  by_cases q1 : p < 0
  · rw [if_pos q1, if_pos q1]; exact ⟨-1, _, _, _, _, _, _, _, rfl, rfl, h, fun _ _ => ⟨rfl, rfl, fun _ _ => rfl⟩⟩
  · rw [if_neg q1, if_neg q1]
    by_cases q2 : 4 < p
    · rw [if_pos q2, if_pos q2]; exact ⟨-1, _, _, _, _, _, _, _, rfl, rfl, h, fun _ _ => ⟨rfl, rfl, fun _ _ => rfl⟩⟩
    · rw [if_neg q2, if_neg q2, Option.bind_some, bif_t]
      by_cases q3 : n ≤ 60
      · rw [if_pos q3, if_pos q3]
        by_cases q4 : 0 ≤ n
        · obtain ⟨q, _, hq, rfl⟩ := In_of (v := p) (a := 0) (b := 4) (by omega) (by omega) q1 q2
          obtain ⟨k, _, hk, rfl⟩ := In_of (v := n) (a := 0) (b := 60) (by omega) (by omega) (Int32.not_lt.mpr q4) (Int32.not_lt.mpr q3)
          obtain ⟨c', ec, hc⟩ := fill60 0 60 yN 0 cells (by omega) (by unfold yN; omega) (fun v hv => absurd hv (Nat.not_lt_zero _))
          have ec' : xj7_fill_d0a16 cells 0 = some c' := ec
          obtain ⟨el', e1, h1, h2⟩ := row53 hs (upd held s (-2 - I q)) (upd len s (I k)) 60 yN 0 el (by omega) (by unfold yN; omega)
          have e1' : x9_row_53 (upd held s (-2 - I q)) (upd len s (I k)) (I s) yN el 0 = some (1, el', upd held s (-2 - I q), upd len s (I k)) := e1
          have hsz : (if (0 : Int32) < (if I k < 60 then I k else 60) then (if I k < 60 then I k else 60) else 0) = I k := by
            by_cases w : k < 60
            · have w1 : I k < (60 : Int32) := by show I k < I 60; rw [I_lt (by omega) (by omega)]; exact w
              rw [if_pos w1]
              by_cases w0 : k = 0
              · rw [w0]; rfl
              · rw [if_pos (by show I 0 < I k; rw [I_lt (by omega) (by omega)]; omega)]
            · have hk60 : k = 60 := by omega
              subst hk60; rfl
          unfold x5_takeRow
          rw [if_pos q4, if_pos q4, bif_t, bif_t, ec', Option.bind_some, Option.bind_some, e1', hsz]
          refine ⟨1, _, _, _, _, _, _, _, rfl, rfl, Or.inr (Or.inr ⟨q, hq, rfl, by unfold upd; rw [if_pos rfl], k, hk, rfl, by unfold upd; rw [if_pos rfl], fun j hj => ?_⟩), fun t ht => ⟨by unfold upd; rw [if_neg ht], by unfold upd; rw [if_neg ht], fun j hj => h2 _ (by omega)⟩⟩
          show c' j = _
          rw [hc j (by omega), h1 j (by omega) (by omega)]
        · rw [if_neg q4, if_neg q4]; exact ⟨-14, _, _, _, _, _, _, _, rfl, rfl, h, fun _ _ => ⟨rfl, rfl, fun _ _ => rfl⟩⟩
      · rw [if_neg q3, if_neg q3]; exact ⟨-1, _, _, _, _, _, _, _, rfl, rfl, h, fun _ _ => ⟨rfl, rfl, fun _ _ => rfl⟩⟩
/-- which elements are there -/
theorem cellsC {q n c : Nat} (hq : q ≤ 4) (hn : n ≤ 60) (hc : c ≤ 60) (p : Int32) : (∃ k, k + c ≤ n ∧ p = I k ∧ x5_holdsCells (I q) (I n) p (I c) = some true ∧ x9_within p 0 (I n - I c) = some true) ∨ (x5_holdsCells (I q) (I n) p (I c) = some false ∧ x9_within p 0 (I n - I c) = some false) := by
  obtain ⟨_, _, _, _, n5, n6, _⟩ := negq hq
  have hr : x5_holdsRow (I q) = some true := by unfold x5_holdsRow; rw [if_neg n5, if_neg n6]
  have e1 : (I n - I c : Int32).toInt = (n : Int) - c := by
    rw [Int32.toInt_sub, I_toInt (by omega), I_toInt (by omega), Int.bmod_def]; omega
  unfold x5_holdsCells x9_within
  rw [hr, Option.bind_some, bif_t]
  rcases I_or p with ⟨k, hk, rfl⟩ | hp
  · have h0 : ¬ (I k < 0) := by show ¬ (I k < I 0); rw [I_lt (by omega) (by omega)]; omega
    have hc0 : ¬ (I c < 0) := by show ¬ (I c < I 0); rw [I_lt (by omega) (by omega)]; omega
    rw [if_neg h0, if_neg h0, if_neg hc0]
    by_cases w : n < c
    · rw [if_pos (by rw [I_lt (by omega) (by omega)]; exact w), if_pos (by rw [Int32.lt_iff_toInt_lt, e1, I_toInt (by omega)]; omega)]
      exact Or.inr ⟨rfl, rfl⟩
    · rw [if_neg (by rw [I_lt (by omega) (by omega)]; exact w)]
      by_cases w2 : I n - I c < I k
      · rw [if_pos w2]; exact Or.inr ⟨rfl, rfl⟩
      · rw [if_neg w2]
        rw [Int32.lt_iff_toInt_lt, e1, I_toInt (by omega)] at w2
        exact Or.inl ⟨k, by omega, rfl, rfl, rfl⟩
  · rw [if_pos hp, if_pos hp]; exact Or.inr ⟨rfl, rfl⟩
theorem rowFacts {q : Nat} (hq : q ≤ 4) : x5_holdsNothing (I q) = some false ∧ x5_holdsRow (I q) = some true := by
  obtain ⟨_, _, _, n4, n5, n6, _⟩ := negq hq
  exact ⟨by unfold x5_holdsNothing; rw [if_neg n4], by unfold x5_holdsRow; rw [if_neg n5, if_neg n6]⟩
theorem isRowI {s : Nat} (hs : s < 6) (held : Nat → Int32) : x9_isRow held (I s) = some (decide (¬ (-1 : Int32) ≤ held s)) := by
  obtain ⟨_, _, i3, i4⟩ := shI hs
  unfold x9_isRow
  rw [i3, i4, bif_t]
  by_cases q : (-1 : Int32) ≤ held s
  · rw [if_pos q, decide_eq_false (fun h => h q)]
  · rw [if_neg q, decide_eq_true q]
theorem lowSame (q : Int32) (v : Int64) : x5_lowestBits q v = x9_low q v := rfl
theorem m_put {s nb : Nat} (hs : s < 6) (hnb : nb ≤ 50) {sort body size : Int32} {cells : Nat → Int64} {held len : Nat → Int32} {el : Nat → Int64} (h : ShOk s sort body size cells held len el nb) (p : Int32) (v : Int64) :
    ∃ r cells' el', x8_put_i sort size cells (I s) p v = some (r, cells') ∧ x9_put el held len (I s) p v = some (r, el') ∧ ShOk s sort body size cells' held len el' nb ∧ ∀ t, t ≠ s → ∀ k, k < 60 → el' (60 * t + k) = el (60 * t + k) := by
  obtain ⟨i1, i2, i3, i4⟩ := shI hs
  unfold x8_put_i x8_refusalOf_i x9_put
  rw [i1, i2, i3, i4, isRowI hs, Option.bind_some, Option.bind_some, bif_t, bif_t]
  have h' := h
  rcases h' with ⟨rfl, a2⟩ | ⟨rfl, b, a2, rfl, a4⟩ | ⟨q, hq, rfl, a3, n, hn, rfl, a6, a7⟩
  · rw [a2, if_pos rfl, show x5_holdsNothing (-1) = some true by decide]
    exact ⟨-11, _, _, rfl, rfl, h, fun _ _ _ _ => rfl⟩
  · obtain ⟨b1, b2, _⟩ := negb (b := b) (by omega)
    rw [a4, if_neg b1, decide_eq_false (fun h => h b2), show x5_holdsNothing 5 = some false by decide, show x5_holdsRow 5 = some false by decide]
    exact ⟨-12, _, _, rfl, rfl, h, fun _ _ _ _ => rfl⟩
  · obtain ⟨n1, n2, n3, n4, n5, n6, n7⟩ := negq hq
    obtain ⟨f1, f2⟩ := rowFacts hq
    have ec1 : (1 : Int32) = I 1 := rfl
    rw [a3, if_neg n1, decide_eq_true n2, f1, f2, a6, Option.bind_some, Option.bind_some, Option.bind_some, bif_f, bif_t, bif_t]
    rcases cellsC (c := 1) hq hn (by omega) p with ⟨k, hk, rfl, c1, c2⟩ | ⟨c1, c2⟩
    · have c1' : x5_holdsCells (I q) (I n) (I k) 1 = some true := c1
      have c2' : x9_within (I k) 0 (I n - 1) = some true := c2
      have hlow : ∃ w, x5_lowestBits (I q) v = some w := by
        have : q = 0 ∨ q = 1 ∨ q = 2 ∨ q = 3 ∨ q = 4 := by omega
        rcases this with h | h | h | h | h <;> subst h
        · exact ⟨_, rfl⟩
        · exact ⟨_, rfl⟩
        · exact ⟨_, rfl⟩
        · exact ⟨_, rfl⟩
        · show ∃ w, (if (lg_cmp v 0) = 0 then some 0 else some 1) = some w
          split <;> exact ⟨_, rfl⟩
      obtain ⟨w, hw⟩ := hlow
      have e : (60 : Int32) * I s + I k = I (60 * s + k) := by show I 60 * I s + I k = _; rw [I_mul, I_add]
      have hso : x9_sortOf held (I s) = some (I q) := by
        unfold x9_sortOf
        rw [i3, i4, bif_t, a3, n3]
      rw [c1', c2', Option.bind_some, Option.bind_some, bif_t, bif_t, Option.bind_some, Option.bind_some, if_pos rfl, hso, Option.bind_some, ← lowSame, hw, Option.bind_some, e, I_inB (by omega), decide_eq_true (by omega : 60 * s + k < 360), bif_t, I_clamp (n := 60 * s + k) (by omega)]
      unfold x5_store
      rw [c1', Option.bind_some, bif_t, hw, Option.bind_some, I_inB (by omega), decide_eq_true (by omega : k < 60), bif_t, Option.bind_some, I_clamp (by omega)]
      refine ⟨1, _, _, rfl, rfl, Or.inr (Or.inr ⟨q, hq, rfl, a3, n, hn, rfl, a6, fun j hj => ?_⟩), fun t ht j hj => ?_⟩
      · unfold vp_updL
        by_cases w : j = k
        · rw [if_pos w, if_pos (by omega)]
        · rw [if_neg w, if_neg (by omega)]; exact a7 j hj
      · unfold vp_updL; rw [if_neg (by omega)]
    · have c1' : x5_holdsCells (I q) (I n) p 1 = some false := c1
      have c2' : x9_within p 0 (I n - 1) = some false := c2
      rw [c1', c2']
      exact ⟨-13, _, _, rfl, rfl, h, fun _ _ _ _ => rfl⟩
theorem m_element {s nb : Nat} (hs : s < 6) (hnb : nb ≤ 50) {sort body size : Int32} {cells : Nat → Int64} {held len : Nat → Int32} {el : Nat → Int64} (h : ShOk s sort body size cells held len el nb) (p : Int32) :
    ∃ r, x8_element_i sort size cells (I s) p = some r ∧ x9_element el held len (I s) p = some r := by
  obtain ⟨i1, i2, i3, i4⟩ := shI hs
  unfold x8_element_i x8_refusalOf_i x9_element
  rw [i1, i2, i3, i4, isRowI hs, Option.bind_some, Option.bind_some, Option.bind_some, Option.bind_some, bif_t]
  have h' := h
  rcases h' with ⟨rfl, a2⟩ | ⟨rfl, b, a2, rfl, a4⟩ | ⟨q, hq, rfl, a3, n, hn, rfl, a6, a7⟩
  · rw [a2, show x5_holdsNothing (-1) = some true by decide]
    exact ⟨_, rfl, rfl⟩
  · obtain ⟨b1, b2, _⟩ := negb (b := b) (by omega)
    rw [a4, decide_eq_false (fun h => h b2), show x5_holdsNothing 5 = some false by decide, show x5_holdsRow 5 = some false by decide]
    exact ⟨_, rfl, rfl⟩
  · obtain ⟨n1, n2, n3, n4, n5, n6, n7⟩ := negq hq
    obtain ⟨f1, f2⟩ := rowFacts hq
    rw [a3, decide_eq_true n2, f1, f2, a6, Option.bind_some, Option.bind_some, bif_f, bif_t, bif_t, bif_t]
    rcases cellsC (c := 1) hq hn (by omega) p with ⟨k, hk, rfl, c1, c2⟩ | ⟨c1, c2⟩
    · have c1' : x5_holdsCells (I q) (I n) (I k) 1 = some true := c1
      have c2' : x9_within (I k) 0 (I n - 1) = some true := c2
      have e : (60 : Int32) * I s + I k = I (60 * s + k) := by show I 60 * I s + I k = _; rw [I_mul, I_add]
      rw [c1', c2', Option.bind_some, Option.bind_some, bif_t, bif_t, Option.bind_some, if_pos rfl, e, I_inB (by omega), decide_eq_true (by omega : 60 * s + k < 360), bif_t, I_clamp (n := 60 * s + k) (by omega)]
      unfold x5_cell
      rw [c1', Option.bind_some, bif_t, I_inB (by omega), decide_eq_true (by omega : k < 60), bif_t, Option.bind_some, I_clamp (by omega)]
      exact ⟨_, rfl, by rw [a7 k (by omega)]⟩
    · have c1' : x5_holdsCells (I q) (I n) p 1 = some false := c1
      have c2' : x9_within p 0 (I n - 1) = some false := c2
      rw [c1', c2']
      exact ⟨_, rfl, rfl⟩

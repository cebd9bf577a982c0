/-! the k-th stop: the class's row of the least minutes -/
def cn (S : Nat → Nat) : Nat → Nat → Nat
  | 0, _ => 0
  | n + 1, t => cn S n t + (if S n ≤ t then 1 else 0)
def ct (p : Nat → Bool) (s : Nat) : Nat → Nat
  | 0 => 0
  | n + 1 => ct p s n + (if p (s + n) = true then 1 else 0)
/-- how many in [s, u) -/
def cu (p : Nat → Bool) (s u : Nat) : Nat := ct p s (u - s)
def sm : Nat → (Nat → Nat) → Nat
  | 0, _ => 0
  | n + 1, f => sm n f + f n
theorem cu_succ {p : Nat → Bool} {s u : Nat} (h : s ≤ u) : cu p s (u + 1) = cu p s u + (if p u = true then 1 else 0) := by
  unfold cu
  rw [show u + 1 - s = (u - s) + 1 by omega]
  show ct p s (u - s) + (if p (s + (u - s)) = true then 1 else 0) = _
  rw [show s + (u - s) = u by omega]
theorem cu_flat {p : Nat → Bool} {s u : Nat} (h : s ≤ u) : ∀ k, (∀ w, u ≤ w → w < u + k → p w = false) → cu p s (u + k) = cu p s u := by
  intro k
  induction k with
  | zero => intro _; rfl
  | succ k ih =>
    intro hw
    rw [← Nat.add_assoc, cu_succ (by omega), ih (fun w h1 h2 => hw w h1 (by omega)), hw (u + k) (by omega) (by omega), if_neg (by decide)]; rfl
theorem cu_mono {p : Nat → Bool} {s u : Nat} : ∀ k, cu p s u ≤ cu p s (u + k) := by
  intro k
  induction k with
  | zero => exact Nat.le_refl _
  | succ k ih =>
    by_cases h : s ≤ u + k
    · rw [← Nat.add_assoc, cu_succ h]; omega
    · unfold cu at ih ⊢
      rw [show u - s = 0 by omega]; exact Nat.zero_le _
theorem cu_lo {p : Nat → Bool} {s u : Nat} (h : u ≤ s) : cu p s u = 0 := by
  unfold cu; rw [show u - s = 0 by omega]; rfl
theorem sm_mono {f g : Nat → Nat} (n : Nat) (h : ∀ i, i < n → f i ≤ g i) : sm n f ≤ sm n g := by
  induction n with
  | zero => exact Nat.le_refl _
  | succ n ih =>
    have h1 := ih (fun i hi => h i (by omega))
    have h2 := h n (by omega)
    show sm n f + f n ≤ sm n g + g n
    omega
theorem sm_add {f g : Nat → Nat} (n : Nat) : sm n (fun i => f i + g i) = sm n f + sm n g := by
  induction n with
  | zero => rfl
  | succ n ih => show sm n _ + (f n + g n) = sm n f + f n + (sm n g + g n); rw [ih]; omega
theorem sm_cong {f g : Nat → Nat} (n : Nat) (h : ∀ i, i < n → f i = g i) : sm n f = sm n g := by
  induction n with
  | zero => rfl
  | succ n ih => show sm n f + f n = sm n g + g n; rw [ih (fun i hi => h i (by omega)), h n (by omega)]
theorem sm_zero {f : Nat → Nat} (n : Nat) (h : ∀ i, i < n → f i = 0) : sm n f = 0 := by
  induction n with
  | zero => rfl
  | succ n ih => show sm n f + f n = 0; rw [ih (fun i hi => h i (by omega)), h n (by omega)]
theorem cn_le (S : Nat → Nat) (n t : Nat) : cn S n t ≤ n := by
  induction n with
  | zero => exact Nat.le_refl _
  | succ n ih => unfold cn; split <;> omega
theorem cn_all {S : Nat → Nat} {n t : Nat} (h : ∀ j, j < n → S j ≤ t) : cn S n t = n := by
  induction n with
  | zero => rfl
  | succ n ih =>
    unfold cn
    rw [ih (fun j hj => h j (by omega)), if_pos (h n (by omega))]
theorem cn_cong {S T : Nat → Nat} {n t : Nat} (h : ∀ j, j < n → S j = T j) : cn S n t = cn T n t := by
  induction n with
  | zero => rfl
  | succ n ih => unfold cn; rw [ih (fun j hj => h j (by omega)), h n (by omega)]
def ins (S : Nat → Nat) (i m : Nat) : Nat → Nat := fun j => if j < i then S j else if j = i then m else S (j - 1)
theorem cn_ins (S : Nat → Nat) (m t : Nat) : ∀ n i, i ≤ n → cn (ins S i m) (n + 1) t = cn S n t + (if m ≤ t then 1 else 0) := by
  intro n
  induction n with
  | zero =>
    intro i hi
    have : i = 0 := by omega
    subst this
    show 0 + (if m ≤ t then 1 else 0) = 0 + _
    rfl
  | succ n ih =>
    intro i hi
    by_cases h : i = n + 1
    · subst h
      show cn (ins S (n + 1) m) (n + 1) t + (if ins S (n + 1) m (n + 1) ≤ t then 1 else 0) = _
      rw [show ins S (n + 1) m (n + 1) = m by unfold ins; rw [if_neg (by omega), if_pos rfl], cn_cong (T := S) (fun j hj => by unfold ins; rw [if_pos hj])]
    · show cn (ins S i m) (n + 1) t + (if ins S i m (n + 1) ≤ t then 1 else 0) = cn S n t + (if S n ≤ t then 1 else 0) + _
      rw [ih i (by omega), show ins S i m (n + 1) = S n by unfold ins; rw [if_neg (by omega), if_neg (by omega), Nat.add_sub_cancel]]
      omega
def Srt (S : Nat → Nat) (n : Nat) : Prop := ∀ i j, i ≤ j → j < n → S i ≤ S j
theorem Srt.ins_ {S : Nat → Nat} {n i m : Nat} (h : Srt S n) (hi : i ≤ n) (h1 : i = 0 ∨ S (i - 1) ≤ m) (h2 : ∀ j, i ≤ j → j < n → m < S j) : Srt (ins S i m) (n + 1) := by
  intro a b hab hb
  show (if a < i then S a else if a = i then m else S (a - 1)) ≤ (if b < i then S b else if b = i then m else S (b - 1))
  by_cases q1 : a < i
  · rw [if_pos q1]
    by_cases q2 : b < i
    · rw [if_pos q2]; exact h a b hab (by omega)
    · rw [if_neg q2]
      have h3 : S a ≤ m := by
        rcases h1 with h1 | h1
        · omega
        · have := h a (i - 1) (by omega) (by omega)
          omega
      by_cases q3 : b = i
      · rw [if_pos q3]; exact h3
      · rw [if_neg q3]
        have := h2 (b - 1) (by omega) (by omega)
        omega
  · rw [if_neg q1, if_neg (by omega : ¬ b < i)]
    by_cases q2 : a = i
    · rw [if_pos q2]
      by_cases q3 : b = i
      · rw [if_pos q3]; exact Nat.le_refl _
      · rw [if_neg q3]
        have := h2 (b - 1) (by omega) (by omega)
        omega
    · rw [if_neg q2, if_neg (by omega : ¬ b = i)]
      exact h (a - 1) (b - 1) (by omega) (by omega)
/-- the row of the least minutes, at most k of them -/
def Wst (k had : Nat) (S : Nat → Nat) (stops : Nat → Int32) (C : Nat → Nat) : Prop :=
  had ≤ k ∧ Srt S had ∧ (∀ j, j < had → stops j = I (S j) ∧ S j < 1440) ∧ ∀ t, t < 1440 → cn S had t = min k (C t)
def bef (k had : Nat) (S : Nat → Nat) : Nat := if had < k then 1440 else S (k - 1)
theorem Wst.skip {k had : Nat} {S : Nat → Nat} {stops : Nat → Int32} {C C' : Nat → Nat} (h : Wst k had S stops C) (h1 : ∀ t, t < bef k had S → t < 1440 → C' t = C t) (h2 : ∀ t, C t ≤ C' t) (hk : 1 ≤ k) : Wst k had S stops C' := by
  obtain ⟨a1, a2, a3, a4⟩ := h
  refine ⟨a1, a2, a3, fun t ht => ?_⟩
  by_cases hb : t < bef k had S
  · rw [h1 t hb ht]; exact a4 t ht
  · unfold bef at hb
    by_cases hh : had < k
    · rw [if_pos hh] at hb; omega
    · rw [if_neg hh] at hb
      have e : had = k := by omega
      have h3 : cn S had t = had := cn_all (fun j hj => by
        have := a2 j (k - 1) (by omega) (by omega)
        omega)
      have h4 := a4 t ht
      have h5 := h2 t
      omega
theorem insLoop {S : Nat → Nat} {m k had at0 : Nat} (hm : m < 1440) (h8 : at0 ≤ 8) (hS : ∀ j, j < at0 → S j < 1440) : ∀ i n (arr : Nat → Int32), i ≤ at0 → i < n → (∀ j, j < i → arr j = I (S j)) → (∀ j, i < j → j ≤ at0 → arr j = I (S (j - 1))) → (∀ j, i ≤ j → j < at0 → m < S j) →
    ∃ i' arr', x7_insertStop_18 (I m) (I had) (I k) n arr (I i) (I i) = x7_insertStop_91 (I had) (I k) arr' ∧ i' ≤ at0 ∧ (i' = 0 ∨ S (i' - 1) ≤ m) ∧ (∀ j, i' ≤ j → j < at0 → m < S j) ∧ ∀ j, j ≤ at0 → arr' j = I (ins S i' m j) := by
  intro i
  have fin : ∀ i (arr : Nat → Int32), i ≤ at0 → (∀ j, j < i → arr j = I (S j)) → (∀ j, i < j → j ≤ at0 → arr j = I (S (j - 1))) →
      x7_insertStop_71 (I m) (I had) (I k) arr (I i) = x7_insertStop_91 (I had) (I k) (upd arr i (I m)) ∧ ∀ j, j ≤ at0 → upd arr i (I m) j = I (ins S i m j) := by
    intro i arr hi h1 h2
    refine ⟨?_, fun j hj => ?_⟩
    · rw [x7_insertStop_71, if_neg (by show ¬ (I i < I 0); rw [I_lt (by omega) (by omega)]; omega), if_neg (by show ¬ (I 9 ≤ I i); rw [I_le (by omega) (by omega)]; omega), I_inB (by omega), decide_eq_true (by omega : i < 9), bif_t, I_clamp (by omega)]
    · unfold upd ins
      by_cases e : j = i
      · rw [if_pos e, if_neg (by omega), if_pos e]
      · rw [if_neg e]
        by_cases e2 : j < i
        · rw [if_pos e2]; exact h1 j e2
        · rw [if_neg e2, if_neg e]; exact h2 j (by omega) hj
  induction i with
  | zero =>
    intro n arr hi hn h1 h2 h3
    obtain ⟨n, rfl⟩ : ∃ k, n = k + 1 := ⟨n - 1, by omega⟩
    obtain ⟨f1, f2⟩ := fin 0 arr hi h1 h2
    exact ⟨0, _, by rw [x7_insertStop_18, if_pos (by decide), f1], by omega, Or.inl rfl, h3, f2⟩
  | succ i ih =>
    intro n arr hi hn h1 h2 h3
    obtain ⟨n, rfl⟩ : ∃ k, n = k + 1 := ⟨n - 1, by omega⟩
    have hsi := hS i (by omega)
    have harr := h1 i (by omega)
    rw [x7_insertStop_18, if_neg (by show ¬ (I (i + 1) ≤ I 0); rw [I_le (by omega) (by omega)]; omega), if_neg (by show ¬ (I 9 ≤ _); rw [I_le (by omega) (by omega)]; omega), I_pred (by omega), Nat.add_sub_cancel, I_inB (n := i) (by omega), decide_eq_true (by omega : i < 9), bif_t, I_clamp (n := i) (by omega), harr]
    by_cases hle : S i ≤ m
    · rw [if_pos (by rw [I_le (by omega) (by omega)]; exact hle)]
      obtain ⟨f1, f2⟩ := fin (i + 1) arr hi h1 h2
      exact ⟨i + 1, _, f1, hi, Or.inr (by rw [Nat.add_sub_cancel]; exact hle), h3, f2⟩
    · have e1 : I (i + 1) + (-1) = I i := by
        have : I (i + 1) + (-1) = I (i + 1) - 1 := by rw [Int32.sub_eq_add_neg]
        rw [this, I_pred (by omega), Nat.add_sub_cancel]
      rw [if_neg (by rw [I_le (by omega) (by omega)]; exact hle), I_inB (by omega), decide_eq_true (by omega : i + 1 < 9), bif_t, bif_t, I_clamp (by omega), e1]
      refine ih n _ (by omega) (by omega) ?_ ?_ ?_
      · intro j hj; unfold upd; rw [if_neg (by omega)]; exact h1 j (by omega)
      · intro j hj1 hj2
        unfold upd
        by_cases e : j = i + 1
        · rw [if_pos e, e, Nat.add_sub_cancel]
        · rw [if_neg e]; exact h2 j (by omega) hj2
      · intro j hj1 hj2
        by_cases e : j = i
        · rw [e]; omega
        · exact h3 j (by omega) hj2
theorem Wst.insert {k had m : Nat} {S : Nat → Nat} {stops : Nat → Int32} {C : Nat → Nat} (h : Wst k had S stops C) (hk : 1 ≤ k) (hk9 : k ≤ 9) (hm : m < bef k had S) (hm' : m < 1440) :
    ∃ S' stops' had', x7_insertStop stops (I m) (I had) (I k) = some (I had', stops') ∧ Wst k had' S' stops' (fun t => C t + (if m ≤ t then 1 else 0)) ∧ had' = (if had < k then had + 1 else k) := by
  obtain ⟨a1, a2, a3, a4⟩ := h
  by_cases hh : had < k
  · obtain ⟨i, arr, e, b1, b2, b3, b4⟩ := insLoop (S := S) (m := m) (k := k) (had := had) (at0 := had) hm' (by omega) (fun j hj => (a3 j hj).2) had yN stops (Nat.le_refl _) (by unfold yN; omega) (fun j hj => (a3 j hj).1) (fun j h1 h2 => by omega) (fun j h1 h2 => by omega)
    refine ⟨ins S i m, arr, had + 1, ?_, ⟨by omega, a2.ins_ b1 b2 b3, ?_, ?_⟩, by rw [if_pos hh]⟩
    · unfold x7_insertStop x7_insertStop_12
      rw [if_neg (by rw [I_le (by omega) (by omega)]; omega), e, x7_insertStop_91, if_neg (by rw [I_le (by omega) (by omega)]; omega), I_succ]
    · intro j hj
      refine ⟨b4 j (by omega), ?_⟩
      unfold ins
      by_cases q1 : j < i
      · rw [if_pos q1]; exact (a3 j (by omega)).2
      · rw [if_neg q1]
        by_cases q2 : j = i
        · rw [if_pos q2]; exact hm'
        · rw [if_neg q2]; exact (a3 (j - 1) (by omega)).2
    · intro t ht
      rw [cn_ins S m t had i b1, a4 t ht]
      have h5 := cn_le S had t
      have h6 := a4 t ht
      show _ = min k (C t + _)
      split <;> omega
  · have hk' : had = k := by omega
    subst hk'
    unfold bef at hm
    rw [if_neg hh] at hm
    obtain ⟨i, arr, e, b1, b2, b3, b4⟩ := insLoop (S := S) (m := m) (k := had) (had := had) (at0 := had - 1) hm' (by omega) (fun j hj => (a3 j (by omega)).2) (had - 1) yN stops (Nat.le_refl _) (by unfold yN; omega) (fun j hj => (a3 j (by omega)).1) (fun j h1 h2 => by omega) (fun j h1 h2 => by omega)
    have hsr : Srt S (had - 1) := fun x y hxy hy => a2 x y hxy (by omega)
    have hsi := hsr.ins_ b1 b2 b3
    rw [show had - 1 + 1 = had by omega] at hsi
    refine ⟨ins S i m, arr, had, ?_, ⟨by omega, hsi, ?_, ?_⟩, by rw [if_neg hh]⟩
    · unfold x7_insertStop x7_insertStop_12
      rw [if_pos (by rw [I_le (by omega) (by omega)]; omega), I_pred (by omega), e, x7_insertStop_91, if_pos (by rw [I_le (by omega) (by omega)]; omega)]
    · intro j hj
      refine ⟨b4 j (by omega), ?_⟩
      unfold ins
      by_cases q1 : j < i
      · rw [if_pos q1]; exact (a3 j (by omega)).2
      · rw [if_neg q1]
        by_cases q2 : j = i
        · rw [if_pos q2]; exact hm'
        · rw [if_neg q2]; exact (a3 (j - 1) (by omega)).2
    · intro t ht
      have h7 := cn_ins S m t (had - 1) i b1
      rw [show had - 1 + 1 = had by omega] at h7
      rw [h7]
      have h8 : cn S had t = cn S (had - 1) t + (if S (had - 1) ≤ t then 1 else 0) := by
        have : cn S (had - 1 + 1) t = cn S (had - 1) t + (if S (had - 1) ≤ t then 1 else 0) := rfl
        rw [show had - 1 + 1 = had by omega] at this
        exact this
      have h9 := a4 t ht
      have h10 := cn_le S (had - 1) t
      show _ = min had (C t + _)
      by_cases q : S (had - 1) ≤ t
      · rw [if_pos q] at h8
        have h11 : cn S (had - 1) t = had - 1 := cn_all (fun j hj => by
          have := a2 j (had - 1) (by omega) (by omega)
          omega)
        rw [if_pos (by omega)]
        omega
      · rw [if_neg q] at h8
        split <;> omega

/-! how far: class and reference against one row of numbers -/
def relx (fr to ln : Nat → Nat) (x : Nat) (d : Nat → Nat) : Nat → Nat := fun v => if v = fr x ∧ d (to x) + ln x < d v then d (to x) + ln x else d v
def rnd (fr to ln : Nat → Nat) : Nat → Nat → (Nat → Nat) → (Nat → Nat)
  | 0, _, d => d
  | n + 1, x, d => rnd fr to ln n (x + 1) (relx fr to ln x d)
def itr (f : (Nat → Nat) → (Nat → Nat)) : Nat → (Nat → Nat) → (Nat → Nat)
  | 0, d => d
  | k + 1, d => f (itr f k d)
def jac (fr to ln : Nat → Nat) : Nat → (Nat → Nat) → (Nat → Nat)
  | 0, d => d
  | n + 1, d => fun v => if fr n = v ∧ d (to n) + ln n < jac fr to ln n d v then d (to n) + ln n else jac fr to ln n d v
section far
variable {fr to ln : Nat → Nat}
theorem relx_le (x : Nat) (d : Nat → Nat) (v : Nat) : relx fr to ln x d v ≤ d v := by
  unfold relx; split <;> omega
theorem rnd_le (n : Nat) : ∀ x d v, rnd fr to ln n x d v ≤ d v := by
  induction n with
  | zero => intro x d v; exact Nat.le_refl _
  | succ n ih => intro x d v; exact Nat.le_trans (ih (x + 1) (relx fr to ln x d) v) (relx_le x d v)
theorem rnd_road (n : Nat) : ∀ x d y, x ≤ y → y < x + n → rnd fr to ln n x d (fr y) ≤ d (to y) + ln y := by
  induction n with
  | zero => intro x d y h1 h2; omega
  | succ n ih =>
    intro x d y h1 h2
    by_cases h : y = x
    · subst h
      refine Nat.le_trans (rnd_le n (y + 1) (relx fr to ln y d) (fr y)) ?_
      unfold relx; split <;> omega
    · exact Nat.le_trans (ih (x + 1) (relx fr to ln x d) y (by omega) (by omega)) (Nat.add_le_add_right (relx_le x d (to y)) _)
theorem relx_ge {e d : Nat → Nat} {x : Nat} (h : ∀ v, e v ≤ d v) (hx : e (fr x) ≤ e (to x) + ln x) : ∀ v, e v ≤ relx fr to ln x d v := by
  intro v
  have h1 := h (to x)
  have h2 := h v
  unfold relx; split
  · rename_i h3
    rw [h3.1]; omega
  · exact h2
theorem rnd_ge (n : Nat) : ∀ {e d : Nat → Nat} {x : Nat}, (∀ v, e v ≤ d v) → (∀ y, x ≤ y → y < x + n → e (fr y) ≤ e (to y) + ln y) → ∀ v, e v ≤ rnd fr to ln n x d v := by
  induction n with
  | zero => intro e d x h _ v; exact h v
  | succ n ih =>
    intro e d x h hy v
    exact ih (relx_ge h (hy x (Nat.le_refl _) (by omega))) (fun y h1 h2 => hy y (by omega) (by omega)) v
theorem jac_le (n : Nat) (d : Nat → Nat) (v : Nat) : jac fr to ln n d v ≤ d v := by
  induction n with
  | zero => exact Nat.le_refl _
  | succ n ih => unfold jac; split <;> omega
theorem jac_road (n : Nat) (d : Nat → Nat) (y : Nat) (hy : y < n) : jac fr to ln n d (fr y) ≤ d (to y) + ln y := by
  induction n with
  | zero => omega
  | succ n ih =>
    by_cases h : y = n
    · subst h; unfold jac; split <;> omega
    · have := ih (by omega)
      unfold jac; split <;> omega
theorem jac_cases (n : Nat) (d : Nat → Nat) (v : Nat) : jac fr to ln n d v = d v ∨ ∃ y, y < n ∧ fr y = v ∧ jac fr to ln n d v = d (to y) + ln y := by
  induction n with
  | zero => exact Or.inl rfl
  | succ n ih =>
    unfold jac; split
    · rename_i h; exact Or.inr ⟨n, by omega, h.1, rfl⟩
    · rcases ih with h | ⟨y, h1, h2, h3⟩
      · exact Or.inl h
      · exact Or.inr ⟨y, by omega, h2, h3⟩
theorem rnd_jac (R : Nat) {d e : Nat → Nat} (h : ∀ v, d v ≤ e v) (v : Nat) : rnd fr to ln R 0 d v ≤ jac fr to ln R e v := by
  rcases jac_cases (fr := fr) (to := to) (ln := ln) R e v with h1 | ⟨y, hy, h2, h3⟩
  · rw [h1]; exact Nat.le_trans (rnd_le R 0 d v) (h v)
  · rw [h3, ← h2]
    have h4 := rnd_road (fr := fr) (to := to) (ln := ln) R 0 d y (Nat.zero_le _) (by omega)
    have h5 := h (to y)
    omega
theorem chain {P R : Nat} {d0 : Nat → Nat} (hfr : ∀ y, y < R → fr y < P) (hln : ∀ y, y < R → 1 ≤ ln y) : ∀ k v, itr (jac fr to ln R) (k + 1) d0 v < itr (jac fr to ln R) k d0 v →
    ∃ l : List Nat, l.length = k + 1 ∧ l.Nodup ∧ (∀ u, u ∈ l → u < P) ∧ (∀ u, u ∈ l → itr (jac fr to ln R) (k + 1) d0 u ≤ itr (jac fr to ln R) (k + 1) d0 v) := by
  intro k
  induction k with
  | zero =>
    intro v hv
    rcases jac_cases (fr := fr) (to := to) (ln := ln) R d0 v with h1 | ⟨y, hy, h2, h3⟩
    · have : itr (jac fr to ln R) (0 + 1) d0 v = d0 v := h1
      have h0 : itr (jac fr to ln R) 0 d0 v = d0 v := rfl
      omega
    · refine ⟨[v], rfl, by simp, ?_, ?_⟩
      · intro u hu; rw [List.mem_singleton] at hu; rw [hu, ← h2]; exact hfr y hy
      · intro u hu; rw [List.mem_singleton] at hu; rw [hu]; exact Nat.le_refl _
  | succ k ih =>
    intro v hv
    rcases jac_cases (fr := fr) (to := to) (ln := ln) R (itr (jac fr to ln R) (k + 1) d0) v with h1 | ⟨y, hy, h2, h3⟩
    · have : itr (jac fr to ln R) (k + 1 + 1) d0 v = itr (jac fr to ln R) (k + 1) d0 v := h1
      omega
    · have h3' : itr (jac fr to ln R) (k + 1 + 1) d0 v = itr (jac fr to ln R) (k + 1) d0 (to y) + ln y := h3
      have h4 : itr (jac fr to ln R) (k + 1) d0 (fr y) ≤ itr (jac fr to ln R) k d0 (to y) + ln y := jac_road R _ y hy
      rw [h2] at h4
      have h5 : itr (jac fr to ln R) (k + 1) d0 (to y) < itr (jac fr to ln R) k d0 (to y) := by omega
      obtain ⟨l, l1, l2, l3, l4⟩ := ih (to y) h5
      have h6 := hln y hy
      have h7 : ∀ u, itr (jac fr to ln R) (k + 1 + 1) d0 u ≤ itr (jac fr to ln R) (k + 1) d0 u := fun u => jac_le R _ u
      refine ⟨v :: l, by rw [List.length_cons, l1], ?_, ?_, ?_⟩
      · rw [List.nodup_cons]
        refine ⟨fun hm => ?_, l2⟩
        have a1 := l4 v hm
        have a2 := h7 v
        omega
      · intro u hu
        rcases List.mem_cons.mp hu with e | e
        · rw [e, ← h2]; exact hfr y hy
        · exact l3 u e
      · intro u hu
        rcases List.mem_cons.mp hu with e | e
        · rw [e]; exact Nat.le_refl _
        · have a1 := l4 u e
          have a2 := h7 u
          omega
theorem stab {P R : Nat} {d0 : Nat → Nat} (hfr : ∀ y, y < R → fr y < P) (hln : ∀ y, y < R → 1 ≤ ln y) (v : Nat) : itr (jac fr to ln R) (P + 1) d0 v = itr (jac fr to ln R) P d0 v := by
  have h7 : itr (jac fr to ln R) (P + 1) d0 v ≤ itr (jac fr to ln R) P d0 v := jac_le R _ v
  by_cases h : itr (jac fr to ln R) (P + 1) d0 v < itr (jac fr to ln R) P d0 v
  · obtain ⟨l, l1, l2, l3, _⟩ := chain hfr hln P v h
    have h8 : l.length ≤ (List.range P).length := List.Nodup.length_le_of_subset l2 (fun u hu => List.mem_range.mpr (l3 u hu))
    rw [List.length_range] at h8
    omega
  · omega
theorem itr_le_start {R : Nat} {d0 : Nat → Nat} (k v : Nat) : itr (jac fr to ln R) k d0 v ≤ d0 v := by
  induction k with
  | zero => exact Nat.le_refl _
  | succ k ih => exact Nat.le_trans (jac_le R _ v) ih
theorem itr_rnd_jac {R : Nat} {d0 : Nat → Nat} (k : Nat) : ∀ v, itr (rnd fr to ln R 0) k d0 v ≤ itr (jac fr to ln R) k d0 v := by
  induction k with
  | zero => intro v; exact Nat.le_refl _
  | succ k ih => exact rnd_jac R ih
theorem itr_rnd_ge {P R : Nat} {d0 : Nat → Nat} (hfr : ∀ y, y < R → fr y < P) (hln : ∀ y, y < R → 1 ≤ ln y) (k : Nat) : ∀ v, itr (jac fr to ln R) P d0 v ≤ itr (rnd fr to ln R 0) k d0 v := by
  have hfe : ∀ y, y < R → itr (jac fr to ln R) P d0 (fr y) ≤ itr (jac fr to ln R) P d0 (to y) + ln y := by
    intro y hy
    rw [← stab hfr hln (fr y)]
    exact jac_road R _ y hy
  induction k with
  | zero => exact fun v => itr_le_start P v
  | succ k ih => exact rnd_ge R ih (fun y _ h => hfe y (by omega))
/-- behind as many rounds as there are places nothing changes -/
theorem rnd_fix {P R : Nat} {d0 : Nat → Nat} (hfr : ∀ y, y < R → fr y < P) (hln : ∀ y, y < R → 1 ≤ ln y) : rnd fr to ln R 0 (itr (rnd fr to ln R 0) P d0) = itr (rnd fr to ln R 0) P d0 := by
  funext v
  have h1 : itr (rnd fr to ln R 0) (P + 1) d0 v ≤ itr (rnd fr to ln R 0) P d0 v := rnd_le R 0 _ v
  have h2 := itr_rnd_ge (to := to) (d0 := d0) hfr hln (P + 1) v
  have h3 := itr_rnd_jac (fr := fr) (to := to) (ln := ln) (R := R) (d0 := d0) P v
  show itr (rnd fr to ln R 0) (P + 1) d0 v = _
  omega
theorem itr_fix {f : (Nat → Nat) → (Nat → Nat)} {d0 : Nat → Nat} {m : Nat} (h : f (itr f m d0) = itr f m d0) : ∀ k, itr f (m + k) d0 = itr f m d0 := by
  intro k
  induction k with
  | zero => rfl
  | succ k ih => show f (itr f (m + k) d0) = _; rw [ih, h]
theorem rnd_no {n : Nat} : ∀ {x : Nat} {d : Nat → Nat}, (∀ v, d v = 9999) → rnd fr to ln n x d = d := by
  induction n with
  | zero => intro x d _; rfl
  | succ n ih =>
    intro x d h
    have : relx fr to ln x d = d := by
      funext v; unfold relx; rw [h, h, if_neg (by omega)]
    show rnd fr to ln n (x + 1) (relx fr to ln x d) = d
    rw [this]; exact ih h
theorem rnd_out {P : Nat} {v : Nat} (hv : P ≤ v) (n : Nat) : ∀ {x : Nat} {d : Nat → Nat}, (∀ y, x ≤ y → y < x + n → fr y < P) → rnd fr to ln n x d v = d v := by
  induction n with
  | zero => intro x d _; rfl
  | succ n ih =>
    intro x d h
    show rnd fr to ln n (x + 1) (relx fr to ln x d) v = d v
    rw [ih (fun y h1 h2 => h y (by omega) (by omega))]
    have := h x (Nat.le_refl _) (by omega)
    unfold relx; rw [if_neg (by omega)]
end far
/-- how far it is: rows behind eight rounds -/
def farS (P g : Nat) : Nat → Nat := fun v => if v = g ∧ g < P then 0 else 9999
def farD (P R : Nat) (fr to ln : Nat → Nat) (g : Nat) : Nat → Nat := itr (rnd fr to ln R 0) 8 (farS P g)

/-! the k-th stop: the reference -/
/-- the law in force, on the reference's side -/
def LwM (by_ : Int32) (op val lF lM lT ls : Nat → Int32) (lw : Option Prog) : Prop := (by_ = -1 ∧ lw = none) ∨ ∃ q Q size uw steps, q ≤ 4 ∧ by_ = I q ∧ lw = some Q ∧ TxM q op val lF lM lT ls Q ∧ TxC size uw steps Q
/-- which cars stop, laid ahead -/
def StopsOk (R : Nat) (A : Nat → Nat → Int32) (pe we sg : Int32) (lw : Option Prog) (seed : Int32) (n : Nat) (st : Nat → Int32) : Prop :=
  ∀ x j, x < R → j < 24 * Nn (A 4) x → x < n → (st (1440 * x + j) = 0 ↔ ¬ drw seed (I x) (I j) < bV A pe we sg lw x (60 * j / Nn (A 4) x / 60))
theorem nar0 (b : Bool) : vp_nar .boolean (bI b) = 0 ↔ b = false := by
  cases b <;> decide
section trip
variable {P R : Nat} {A : Nat → Nat → Int32}
theorem minI (h : LandOk P R A) {x j : Nat} (hx : x < R) (hj : j < 100000) : x9_minuteOf (A 4) (I x) (I j) = some (I (60 * j / Nn (A 4) x)) := by
  obtain ⟨_, ⟨e4, l4, l4'⟩, _⟩ := h.r hx
  have hR := h.2.1
  unfold x9_minuteOf
  rw [in16 h hx, bif_t, I_clamp (by omega), e4, if_neg (by show ¬ (_ = I 0); rw [I_eq (by omega) (by omega)]; omega)]
  show some (I 60 * I j / _) = _
  rw [I_mul, I_div (by omega) (by omega)]
theorem r_isStop (h : LandOk P R A) {pe we sg seed : Int32} (hpe : In pe 1 2) {by_ : Int32} {op val lF lM lT ls : Nat → Int32} {lw : Option Prog} (hlw : LwM by_ op val lF lM lT ls lw) {x j : Nat} (hx : x < R) (hj : j < 24 * Nn (A 4) x) (fa pile : Nat → Int32) :
    ∃ fa' pile', x9_isStop we by_ pe seed sg fa (A 4) (A 3) (A 2) lF lM lT ls op pile (A 1) (A 6) (A 0) val (I x) (I j) = some (decide (drw seed (I x) (I j) < bV A pe we sg lw x (60 * j / Nn (A 4) x / 60)), fa', pile') := by
  obtain ⟨_, ⟨e4, l4, l4'⟩, _⟩ := h.r hx
  obtain ⟨p1, p2⟩ := pe_pos hpe
  have hm1440 : 60 * j / Nn (A 4) x < 1440 := by
    rw [Nat.div_lt_iff_lt_mul (by omega)]; omega
  obtain ⟨fa', e1, q1⟩ := r_facts h hx pe we sg (m := 60 * j / Nn (A 4) x) (by omega) fa
  unfold x9_isStop
  rw [minI h hx (by omega), Option.bind_some, e1, Option.bind_some]
  have fin : ∀ fa pile v, v = bV A pe we sg lw x (60 * j / Nn (A 4) x / 60) → ∃ fa' pile', x9_isStop_63 we by_ pe seed sg (A 4) (A 3) (A 2) lF lM lT ls op (A 1) (A 6) (A 0) val (I x) (I j) fa pile v = some (decide (drw seed (I x) (I j) < bV A pe we sg lw x (60 * j / Nn (A 4) x / 60)), fa', pile') := by
    intro fa pile v hv
    rw [x9_isStop_63, x9draw, Option.bind_some, hv]
    by_cases q : drw seed (I x) (I j) < bV A pe we sg lw x (60 * j / Nn (A 4) x / 60)
    · rw [if_neg (by rw [Int32.not_le]; exact q), decide_eq_true q]; exact ⟨fa, pile, rfl⟩
    · rw [if_pos (by rw [← Int32.not_lt]; exact q), decide_eq_false q]; exact ⟨fa, pile, rfl⟩
  rcases hlw with ⟨rfl, rfl⟩ | ⟨q, Q, size, uw, steps, hq, rfl, rfl, hT, hC⟩
  · rw [if_neg (by decide), show inB 0 10 = true by decide, bif_t, if_neg p2, show inB 5 10 = true by decide, bif_t, show (0 : Int32).toNatClampNeg = 0 by decide, show (5 : Int32).toNatClampNeg = 5 by decide, q1 0 (by omega), q1 5 (by omega)]
    refine fin fa' pile _ ?_
    show (10 * A 0 (Nn (A 2) x) + 10) / pe - 5 * we + 20 * (if A 3 x = sg then 1 else 0) = (10 * A 0 (Nn (A 2) x) + 10) / pe - 5 * we + (if A 3 x = sg then 20 else 0)
    by_cases hs : A 3 x = sg
    · rw [if_pos hs, if_pos hs]; rfl
    · rw [if_neg hs, if_neg hs]; rfl
  · obtain ⟨pile', e2⟩ := m_given (fa := fa') hq hC hT pile
    rw [if_pos (by show I 0 ≤ I q; rw [I_le (by omega) (by omega)]; omega), e2, Option.bind_some]
    exact fin fa' pile' _ (evP_cong q1 Q)
theorem r_lay12 (h : LandOk P R A) {pe we sg seed : Int32} (hpe : In pe 1 2) {by_ : Int32} {op val lF lM lT ls : Nat → Int32} {lw : Option Prog} (hlw : LwM by_ op val lF lM lT ls lw) {x : Nat} (hx : x < R) (k2 : (Nat → Int32) → (Nat → Int32) → (Nat → Int32) → Int32 → Option ((Nat → Int32) × (Nat → Int32) × (Nat → Int32))) :
    ∀ m n j fa pile st, j + m = 24 * Nn (A 4) x → m < n → StopsOk R A pe we sg lw seed x st → (∀ i, i < j → (st (1440 * x + i) = 0 ↔ ¬ drw seed (I x) (I i) < bV A pe we sg lw x (60 * i / Nn (A 4) x / 60))) →
      ∃ fa' pile' st', x9_layStops_12 k2 (I R) we by_ pe seed sg (A 4) (A 3) (A 2) lF lM lT ls op (A 1) (A 6) (A 0) val (I x) n fa pile st (I j) = k2 fa' pile' st' (I x + 1) ∧ StopsOk R A pe we sg lw seed (x + 1) st' := by
  obtain ⟨_, ⟨e4, l4, l4'⟩, _⟩ := h.r hx
  have hR := h.2.1
  have e24 : (24 : Int32) * I (Nn (A 4) x) = I (24 * Nn (A 4) x) := I_mul 24 _
  intro m
  induction m with
  | zero =>
    intro n j fa pile st hj hn h1 h2
    obtain ⟨n, rfl⟩ : ∃ k, n = k + 1 := ⟨n - 1, by omega⟩
    refine ⟨fa, pile, st, ?_, ?_⟩
    · rw [x9_layStops_12, in16 h hx, bif_t, I_clamp (by omega), e4, e24, if_pos (by rw [I_le (by omega) (by omega)]; omega), x9_layStops_49]
    · intro y i hy hi hyx
      by_cases e : y = x
      · subst e; exact h2 i (by omega)
      · exact h1 y i hy hi (by omega)
  | succ m ih =>
    intro n j fa pile st hj hn h1 h2
    obtain ⟨n, rfl⟩ : ∃ k, n = k + 1 := ⟨n - 1, by omega⟩
    obtain ⟨fa', pile', e1⟩ := r_isStop (seed := seed) h hpe hlw hx (j := j) (by omega) fa pile
    have e5 : (1440 : Int32) * I x + I j = I (1440 * x + j) := by
      show I 1440 * I x + I j = _
      rw [I_mul, I_add]
    rw [x9_layStops_12, in16 h hx, bif_t, I_clamp (n := x) (by omega), e4, e24, if_neg (by rw [I_le (by omega) (by omega)]; omega), e1, Option.bind_some, e5, I_inB (by omega), decide_eq_true (by omega : 1440 * x + j < 23040), bif_t, I_clamp (by omega), I_succ]
    refine ih n (j + 1) fa' pile' _ (by omega) (by omega) ?_ ?_
    · intro y i hy hi hyx
      obtain ⟨_, ⟨_, _, g4⟩, _⟩ := h.r hy
      unfold upd
      rw [if_neg (by omega)]; exact h1 y i hy hi hyx
    · intro i hi
      unfold upd
      by_cases e : i = j
      · rw [if_pos (by omega), nar0, e]
        exact decide_eq_false_iff_not
      · rw [if_neg (by omega)]; exact h2 i (by omega)
theorem r_lay2 (h : LandOk P R A) {pe we sg seed : Int32} (hpe : In pe 1 2) {by_ : Int32} {op val lF lM lT ls : Nat → Int32} {lw : Option Prog} (hlw : LwM by_ op val lF lM lT ls lw) :
    ∀ m n x fa pile st, x + m = R → m < n → StopsOk R A pe we sg lw seed x st →
      ∃ fa' pile' st', x9_layStops_2 (I R) we by_ pe seed sg (A 4) (A 3) (A 2) lF lM lT ls op (A 1) (A 6) (A 0) val n fa pile st (I x) = some (fa', pile', st') ∧ StopsOk R A pe we sg lw seed R st' := by
  have hR := h.2.1
  intro m
  induction m with
  | zero =>
    intro n x fa pile st hx hn h1
    obtain ⟨n, rfl⟩ : ∃ k, n = k + 1 := ⟨n - 1, by omega⟩
    exact ⟨fa, pile, st, by rw [x9_layStops_2, if_pos (by rw [I_le (by omega) (by omega)]; omega)], by have e : x = R := (by omega); rw [e] at h1; exact h1⟩
  | succ m ih =>
    intro n x fa pile st hx hn h1
    obtain ⟨n, rfl⟩ : ∃ k, n = k + 1 := ⟨n - 1, by omega⟩
    have hxR : x < R := by omega
    obtain ⟨_, ⟨e4, l4, l4'⟩, _⟩ := h.r hxR
    rw [x9_layStops_2, if_neg (by rw [I_le (by omega) (by omega)]; omega)]
    obtain ⟨fa', pile', st', e1, q1⟩ := r_lay12 (seed := seed) h hpe hlw hxR (fun z0 z1 z2 z3 => x9_layStops_2 (I R) we by_ pe seed sg (A 4) (A 3) (A 2) lF lM lT ls op (A 1) (A 6) (A 0) val n z0 z1 z2 z3) (24 * Nn (A 4) x) yN 0 fa pile st (by omega) (by unfold yN; omega) h1 (fun i hi => absurd hi (Nat.not_lt_zero _))
    obtain ⟨fa2, pile2, st2, e2, q2⟩ := ih n (x + 1) fa' pile' st' (by omega) (by omega) q1
    exact ⟨fa2, pile2, st2, by rw [I_succ] at e1; exact e1.trans e2, q2⟩
theorem r_layStops (h : LandOk P R A) {pe we sg seed : Int32} (hpe : In pe 1 2) {by_ : Int32} {op val lF lM lT ls : Nat → Int32} {lw : Option Prog} (hlw : LwM by_ op val lF lM lT ls lw) (fa pile st : Nat → Int32) :
    ∃ fa' pile' st', x9_layStops (I R) we by_ pe seed sg fa (A 4) (A 3) (A 2) lF lM lT ls op pile (A 1) (A 6) (A 0) st val = some (fa', pile', st') ∧ StopsOk R A pe we sg lw seed R st' :=
  r_lay2 h hpe hlw R yN 0 fa pile st (by omega) (by have := h.2.1; unfold yN; omega) (fun x j _ _ hx => absurd hx (Nat.not_lt_zero _))
theorem r_isHere (h : LandOk P R A) {pe we sg seed : Int32} {lw : Option Prog} {st : Nat → Int32} (hS : StopsOk R A pe we sg lw seed R st) {x p t : Nat} (hx : x < R) (ht : t < 10000) : x9_isHere (A 4) (A 2) st (I x) (I p) (I t) = some (gS A pe we sg lw seed p x t) := by
  obtain ⟨_, ⟨e4, l4, l4'⟩, _⟩ := h.r hx
  have hR := h.2.1
  have hm : t * Nn (A 4) x ≤ 10000 * 60 := Nat.mul_le_mul (by omega) l4'
  unfold x9_isHere gS
  rw [in16 h hx, bif_t, I_clamp (by omega)]
  by_cases hp : A 2 x = I p
  · rw [if_pos hp, decide_eq_true hp, Bool.true_and]
    have efc : (I t * I (Nn (A 4) x) + 59) / 60 = I (fc A x t) := by
      show (I t * I (Nn (A 4) x) + I 59) / I 60 = _
      rw [I_mul, I_add, I_div (by omega) (by omega)]; rfl
    have e24 : (24 : Int32) * I (Nn (A 4) x) = I (24 * Nn (A 4) x) := I_mul 24 _
    have hfc : fc A x t < 100000 := by unfold fc; omega
    unfold x9_carIn
    rw [in16 h hx, bif_t, bif_t, I_clamp (by omega), e4, efc, e24]
    by_cases q1 : fc A x t < 24 * Nn (A 4) x
    · rw [if_neg (by rw [I_le (by omega) (by omega)]; omega), minI h hx hfc, Option.bind_some]
      have hmb : 60 * fc A x t / Nn (A 4) x < 1440 := by rw [Nat.div_lt_iff_lt_mul (by omega)]; omega
      by_cases q2 : 60 * fc A x t / Nn (A 4) x = t
      · have e5 : (1440 : Int32) * I x + I (fc A x t) = I (1440 * x + fc A x t) := by
          show I 1440 * I x + I _ = _
          rw [I_mul, I_add]
        rw [if_pos (by rw [q2]), Option.bind_some, if_neg (by show ¬ (_ < I 0); rw [I_lt (by omega) (by omega)]; omega), e5, I_inB (by omega), decide_eq_true (by omega : 1440 * x + fc A x t < 23040), bif_t, I_clamp (by omega)]
        have h5 := hS x (fc A x t) hx q1 hx
        rw [q2] at h5
        by_cases q3 : drw seed (I x) (I (fc A x t)) < bV A pe we sg lw x (t / 60)
        · rw [if_neg (fun h => h5.mp h q3), stB_yes q1 q2 q3]
        · rw [if_pos (h5.mpr q3), stB_no (fun _ _ h => q3 h)]
      · rw [if_neg (by rw [I_eq (by omega) (by omega)]; exact q2), Option.bind_some, if_pos (by decide), stB_no (fun _ h _ => q2 h)]
    · rw [if_pos (by rw [I_le (by omega) (by omega)]; omega), Option.bind_some, if_pos (by decide), stB_no (fun h _ _ => q1 h)]
  · rw [if_neg hp, decide_eq_false hp, Bool.false_and]
def notR (r : Option Nat) : Int32 := match r with
  | none => -2
  | some t => I t
theorem tot_succ {pe we sg seed : Int32} {lw : Option Prog} {p s x t : Nat} (h : s ≤ t) : tot A pe we sg lw seed p s x (t + 1) = tot A pe we sg lw seed p s x t + sm x (fun y => if gS A pe we sg lw seed p y t = true then 1 else 0) := by
  unfold tot
  rw [← sm_add]
  exact sm_cong x (fun i _ => cu_succ h)
theorem r_kth17 (h : LandOk P R A) {pe we sg seed : Int32} {lw : Option Prog} {st : Nat → Int32} (hS : StopsOk R A pe we sg lw seed R st) {p s k t : Nat} (hs : s ≤ t) (ht : t < 1440) (hk9 : k ≤ 9) (k6 : Int32 → Int32 → Option Int32)
    (h6 : ∀ l, 1 ≤ l → tot A pe we sg lw seed p s R (t + 1) + l = k → ∃ r, k6 (I l) (I (t + 1)) = some (notR r) ∧ Kth A pe we sg lw seed R p s k r) :
    ∀ m n x l, x + m = R → m < n → 1 ≤ l → tot A pe we sg lw seed p s R t + sm x (fun y => if gS A pe we sg lw seed p y t = true then 1 else 0) + l = k →
      ∃ r, x9_kthAt_17 k6 (I R) (A 4) (A 2) st (I p) (I t) n (I l) (I x) = some (notR r) ∧ Kth A pe we sg lw seed R p s k r := by
  have hR := h.2.1
  intro m
  induction m with
  | zero =>
    intro n x l hx hn hl hk
    obtain ⟨n, rfl⟩ : ∃ k, n = k + 1 := ⟨n - 1, by omega⟩
    have hxR : x = R := by omega
    subst hxR
    rw [x9_kthAt_17, if_pos (by rw [I_le (by omega) (by omega)]; omega), x9_kthAt_58, I_succ]
    exact h6 l hl (by rw [tot_succ hs]; exact hk)
  | succ m ih =>
    intro n x l hx hn hl hk
    obtain ⟨n, rfl⟩ : ∃ k, n = k + 1 := ⟨n - 1, by omega⟩
    have hxR : x < R := by omega
    rw [x9_kthAt_17, if_neg (by rw [I_le (by omega) (by omega)]; omega), r_isHere h hS hxR (by omega), Option.bind_some]
    have hsm : sm (x + 1) (fun y => if gS A pe we sg lw seed p y t = true then 1 else 0) = sm x (fun y => if gS A pe we sg lw seed p y t = true then 1 else 0) + (if gS A pe we sg lw seed p x t = true then 1 else 0) := rfl
    cases hg : gS A pe we sg lw seed p x t
    · rw [bif_f, x9_kthAt_52, I_succ]
      exact ih n (x + 1) l (by omega) (by omega) hl (by rw [hsm, hg, if_neg (by decide)]; omega)
    · have e1 : I l + (-1) = I (l - 1) := by
        have : I l + (-1) = I l - 1 := by rw [Int32.sub_eq_add_neg]
        rw [this, I_pred hl]
      rw [bif_t, e1]
      by_cases hl1 : l = 1
      · rw [if_pos (by show I (l - 1) = I 0; rw [hl1])]
        refine ⟨some t, rfl, Or.inl ⟨t, hs, ht, by omega, ?_, rfl⟩⟩
        rw [tot_succ hs]
        have h1 : sm (x + 1) (fun y => if gS A pe we sg lw seed p y t = true then 1 else 0) ≤ sm R (fun y => if gS A pe we sg lw seed p y t = true then 1 else 0) := by
          have : ∀ k f, sm (x + 1) f ≤ sm (x + 1 + k) f := by
            intro k f
            induction k with
            | zero => exact Nat.le_refl _
            | succ k ih => rw [← Nat.add_assoc]; show sm (x + 1) f ≤ sm (x + 1 + k) f + f (x + 1 + k); omega
          have := this (R - (x + 1)) (fun y => if gS A pe we sg lw seed p y t = true then 1 else 0)
          rw [show x + 1 + (R - (x + 1)) = R by omega] at this
          exact this
        rw [hsm, hg, if_pos rfl] at h1
        omega
      · rw [if_neg (by show ¬ (I (l - 1) = I 0); rw [I_eq (by omega) (by omega)]; omega), x9_kthAt_52, I_succ]
        exact ih n (x + 1) (l - 1) (by omega) (by omega) (by omega) (by rw [hsm, hg, if_pos rfl]; omega)
theorem r_kth6 (h : LandOk P R A) {pe we sg seed : Int32} {lw : Option Prog} {st : Nat → Int32} (hS : StopsOk R A pe we sg lw seed R st) {p s k : Nat} (hk9 : k ≤ 9) :
    ∀ m n t l, t + m = 1440 → m < n → s ≤ t → 1 ≤ l → tot A pe we sg lw seed p s R t + l = k →
      ∃ r, x9_kthAt_6 (I R) (A 4) (A 2) st (I p) n (I l) (I t) = some (notR r) ∧ Kth A pe we sg lw seed R p s k r := by
  intro m
  induction m with
  | zero =>
    intro n t l ht hn hs hl hk
    obtain ⟨n, rfl⟩ : ∃ k, n = k + 1 := ⟨n - 1, by omega⟩
    exact ⟨none, by rw [x9_kthAt_6, if_pos (by show I 1440 ≤ I t; rw [I_le (by omega) (by omega)]; omega)]; rfl, Or.inr ⟨by rw [show (1440 : Nat) = t by omega]; omega, rfl⟩⟩
  | succ m ih =>
    intro n t l ht hn hs hl hk
    obtain ⟨n, rfl⟩ : ∃ k, n = k + 1 := ⟨n - 1, by omega⟩
    rw [x9_kthAt_6, if_neg (by show ¬ (I 1440 ≤ I t); rw [I_le (by omega) (by omega)]; omega)]
    exact r_kth17 h hS hs (by omega) hk9 _ (fun l' h1 h2 => ih n (t + 1) l' (by omega) (by omega) (by omega) h1 h2) R yN 0 l (by omega) (by have := h.2.1; unfold yN; omega) hl (by show _ + 0 + l = k; omega)
theorem tot_lo {pe we sg seed : Int32} {lw : Option Prog} {p s x : Nat} : tot A pe we sg lw seed p s x s = 0 := sm_zero x (fun i _ => cu_lo (Nat.le_refl _))
/-- the reference: the k-th car that stops -/
theorem r_kthAt (h : LandOk P R A) {pe we sg seed : Int32} {lw : Option Prog} {st : Nat → Int32} (hS : StopsOk R A pe we sg lw seed R st) {p s k : Nat} (hs : s < 1440) (hk : 1 ≤ k) (hk9 : k ≤ 9) :
    ∃ r, x9_kthAt (I R) (A 4) (A 2) st (I p) (I s) (I k) = some (notR r) ∧ Kth A pe we sg lw seed R p s k r :=
  r_kth6 h hS hk9 (1440 - s) yN s k (by omega) (by unfold yN; omega) (Nat.le_refl _) hk (by rw [tot_lo]; omega)
end trip

/-! by which car one leaves -/
def faG (A : Nat → Nat → Int32) (pe we sg : Int32) (d : Nat → Nat) (x : Nat) (h w : Int32) : Nat → Int32 := fun j =>
  if j = 7 then I (d (Nn (A 3) x)) else if j = 8 then I (d (Nn (A 2) x)) else if j = 9 then w else faL A pe we sg x h j
def gIB (A : Nat → Nat → Int32) (pe we sg : Int32) (rl : Option Prog) (d : Nat → Nat) (x t w : Nat) : Bool :=
  match rl with
  | none => decide (d (Nn (A 3) x) < d (Nn (A 2) x))
  | some Q => decide (evP (faG A pe we sg d x (I (t / 60)) (I w)) Q ≠ 0)
theorem gIB_f {A : Nat → Nat → Int32} {pe we sg : Int32} {Q : Prog} {d : Nat → Nat} {x t w : Nat} (q : evP (faG A pe we sg d x (I (t / 60)) (I w)) Q = 0) : gIB A pe we sg (some Q) d x t w = false := by
  show decide (evP (faG A pe we sg d x (I (t / 60)) (I w)) Q ≠ 0) = false
  exact decide_eq_false (fun h => h q)
theorem gIB_t {A : Nat → Nat → Int32} {pe we sg : Int32} {Q : Prog} {d : Nat → Nat} {x t w : Nat} (q : ¬ evP (faG A pe we sg d x (I (t / 60)) (I w)) Q = 0) : gIB A pe we sg (some Q) d x t w = true := by
  show decide (evP (faG A pe we sg d x (I (t / 60)) (I w)) Q ≠ 0) = true
  exact decide_eq_true q
def RlC (nul : Bool) (size : Int32) (uw : Bool) (steps : Nat → Int32) (rl : Option Prog) : Prop := (nul = true ∧ rl = none) ∨ (nul = false ∧ ∃ Q, rl = some Q ∧ TxC size uw steps Q)
def RlM (has : Bool) (op val lF lM lT ls : Nat → Int32) (rl : Option Prog) : Prop := (has = false ∧ rl = none) ∨ (has = true ∧ ∃ Q size uw steps, rl = some Q ∧ TxM 4 op val lF lM lT ls Q ∧ TxC size uw steps Q)
def GC (A : Nat → Nat → Int32) (pe we sg : Int32) (rl : Option Prog) (d : Nat → Nat) (uw : Bool) (round : Int32) (rounds values : Nat → Int32) : Prop :=
  (∀ Q, rl = some Q → uw = false → CacheOk round rounds values (fun x h => evP (faG A pe we sg d x (I h) (I 0)) Q)) ∧ RB round rounds
theorem faG_no9 {A : Nat → Nat → Int32} {pe we sg : Int32} {d : Nat → Nat} {x : Nat} {h w v : Int32} : ∀ j, j ≠ 9 → faG A pe we sg d x h w j = faG A pe we sg d x h v j := by
  intro j hj
  unfold faG
  rw [if_neg hj, if_neg hj]
theorem faG_upd {A : Nat → Nat → Int32} {pe we sg : Int32} {d : Nat → Nat} {x : Nat} {h w : Int32} {fa : Nat → Int32} (hf : ∀ j, j < 10 → fa j = faL A pe we sg x h j) {v7 v8 : Int32} (e7 : v7 = I (d (Nn (A 3) x))) (e8 : v8 = I (d (Nn (A 2) x))) : ∀ j, j < 10 → upd (upd (upd fa (7 : Int32).toNatClampNeg v7) (8 : Int32).toNatClampNeg v8) (9 : Int32).toNatClampNeg w j = faG A pe we sg d x h w j := by
  intro j hj
  have hj' : j = 7 ∨ j = 8 ∨ j = 9 ∨ (j ≠ 7 ∧ j ≠ 8 ∧ j ≠ 9) := by omega
  rcases hj' with h | h | h | h
  · subst h; exact e7
  · subst h; exact e8
  · subst h; rfl
  · unfold upd faG
    rw [show (7 : Int32).toNatClampNeg = 7 by decide, show (8 : Int32).toNatClampNeg = 8 by decide, show (9 : Int32).toNatClampNeg = 9 by decide, if_neg h.2.2, if_neg h.2.1, if_neg h.1, if_neg h.1, if_neg h.2.1, if_neg h.2.2]
    exact hf j hj
section trip
variable {P R : Nat} {A : Nat → Nat → Int32}
theorem m_near (h : LandOk P R A) {tg : Nat → Int32} {d : Nat → Nat} (hd : Row8 tg d) {x : Nat} (hx : x < R) : x7_leadsNearer tg (A 2) (A 3) (I x) = some (decide (d (Nn (A 3) x) < d (Nn (A 2) x))) := by
  obtain ⟨_, _, ⟨e2, l2⟩, _, ⟨e3, l3⟩, _⟩ := h.r hx
  have hR := h.2.1
  have hP := h.1
  have d2 := hd (Nn (A 2) x) (by omega)
  have d3 := hd (Nn (A 3) x) (by omega)
  have i2 : inB (I (Nn (A 2) x)) 8 = true := by rw [I_inB (by omega)]; exact decide_eq_true (by omega)
  have i3 : inB (I (Nn (A 3) x)) 8 = true := by rw [I_inB (by omega)]; exact decide_eq_true (by omega)
  have s3 := enI h hx
  rw [e3] at s3
  unfold x7_leadsNearer
  rw [s3, Option.bind_some, goalFrom_I tg (by omega), Option.bind_some, stI h hx, Option.bind_some, goalFrom_I tg (by omega), Option.bind_some, d2.1, d3.1]
  by_cases q : d (Nn (A 3) x) < d (Nn (A 2) x)
  · rw [if_neg (by rw [I_le (by omega) (by omega)]; omega), decide_eq_true q]
  · rw [if_pos (by rw [I_le (by omega) (by omega)]; omega), decide_eq_false q]
theorem m_getsIn (h : LandOk P R A) {pe we sg : Int32} {tg : Nat → Int32} {d : Nat → Nat} (hd : Row8 tg d) {nul : Bool} {size : Int32} {uw : Bool} {steps : Nat → Int32} {rl : Option Prog} (hrl : RlC nul size uw steps rl) {round : Int32} {rounds values : Nat → Int32} (hc : GC A pe we sg rl d uw round rounds values) {x t w : Nat} (hx : x < R) (ht : t < 1440) (fa stk : Nat → Int32) :
    ∃ fa' rounds' values' stk', x7_getsIn nul pe we sg fa round size uw tg rounds values (A 6) (A 2) (A 1) (A 0) (A 3) stk steps (I x) (I t) (I w) = some (gIB A pe we sg rl d x t w, fa', rounds', values', stk') ∧ GC A pe we sg rl d uw round rounds' values' := by
  obtain ⟨_, _, ⟨e2, l2⟩, _, ⟨e3, l3⟩, _⟩ := h.r hx
  have hR := h.2.1
  have hP := h.1
  have hx16 : x < 16 := by omega
  have hh : t / 60 < 24 := by omega
  have e60 : I t / 60 = I (t / 60) := I_div (b := 60) (by omega) (by omega)
  unfold x7_getsIn
  rcases hrl with ⟨rfl, rfl⟩ | ⟨rfl, Q, rfl, hT⟩
  · rw [bif_t, m_near h hd hx, Option.bind_some]
    exact ⟨fa, rounds, values, stk, rfl, hc⟩
  · have d2 := hd (Nn (A 2) x) (by omega)
    have d3 := hd (Nn (A 3) x) (by omega)
    have i2 : inB (I (Nn (A 2) x)) 8 = true := by rw [I_inB (by omega)]; exact decide_eq_true (by omega)
    have i3 : inB (I (Nn (A 3) x)) 8 = true := by rw [I_inB (by omega)]; exact decide_eq_true (by omega)
    have calc61 : ∃ fa' rounds' values' stk', x7_getsIn_61 false pe we sg round size uw tg (A 6) (A 2) (A 1) (A 0) (A 3) steps (I x) (I w) fa rounds values stk (I (t / 60)) = some (gIB A pe we sg (some Q) d x t w, fa', rounds', values', stk') ∧ GC A pe we sg (some Q) d uw round rounds' values' := by
      obtain ⟨fa1, f1, q1⟩ := m_facts h hx pe we sg (I (t / 60)) fa
      have q2 := faG_upd (d := d) (w := I w) q1 d3.1 d2.1
      obtain ⟨stk', f2⟩ := m_worth hT stk (upd (upd (upd fa1 (7 : Int32).toNatClampNeg (tg (Nn (A 3) x))) (8 : Int32).toNatClampNeg (tg (Nn (A 2) x))) (9 : Int32).toNatClampNeg (I w))
      rw [evP_cong q2 Q] at f2
      have s3 := enI h hx
      rw [e3] at s3
      unfold x7_getsIn_61
      simp only [f1, Option.bind_some, s3, stI h hx, goalFrom_I tg (n := Nn (A 2) x) (by omega), goalFrom_I tg (n := Nn (A 3) x) (by omega), bif_t, show inB 7 10 = true by decide, show inB 8 10 = true by decide, show inB 9 10 = true by decide, f2, learnI hx16 hh]
      have hgc : GC A pe we sg (some Q) d uw round (upd rounds (24 * x + t / 60) round) (upd values (24 * x + t / 60) (evP (faG A pe we sg d x (I (t / 60)) (I w)) Q)) := by
        refine ⟨?_, hc.2.learn _⟩
        intro Q' hQ' huw
        have : Q = Q' := by injection hQ'
        subst this
        refine (hc.1 Q rfl huw).learn hx16 hh ?_
        obtain ⟨_, _, _, _, hu, _⟩ := hT
        exact evP_no9 faG_no9 Q (by rw [← hu]; exact huw)
      by_cases q : evP (faG A pe we sg d x (I (t / 60)) (I w)) Q = 0
      · rw [if_pos q, gIB_f q]
        exact ⟨_, _, _, stk', rfl, hgc⟩
      · rw [if_neg q, gIB_t q]
        exact ⟨_, _, _, stk', rfl, hgc⟩
    rw [bif_f, e60]
    cases uw
    · rw [bif_f, knowsI hx16 hh, Option.bind_some]
      by_cases hk : rounds (24 * x + t / 60) = round
      · have hv := (hc.1 Q rfl rfl).1 x (t / 60) hx16 hh hk
        have hv2 : evP (faG A pe we sg d x (I (t / 60)) (I 0)) Q = evP (faG A pe we sg d x (I (t / 60)) (I w)) Q := by
          obtain ⟨_, _, _, _, hu, _⟩ := hT
          exact evP_no9 faG_no9 Q hu.symm
        rw [decide_eq_true hk, bif_t, valueAtI hx16 hh, Option.bind_some, hv]
        show ∃ fa' rounds' values' stk', (if evP (faG A pe we sg d x (I (t / 60)) (I 0)) Q = 0 then _ else _) = _ ∧ _
        rw [hv2]
        by_cases q : evP (faG A pe we sg d x (I (t / 60)) (I w)) Q = 0
        · rw [if_pos q, gIB_f q]
          exact ⟨fa, rounds, values, stk, rfl, hc⟩
        · rw [if_neg q, gIB_t q]
          exact ⟨fa, rounds, values, stk, rfl, hc⟩
      · rw [decide_eq_false hk, bif_f]
        exact calc61
    · rw [bif_t]
      exact calc61
theorem m_mayTake (h : LandOk P R A) {tg : Nat → Int32} {d : Nat → Nat} (hd : Row8 tg d) {nul : Bool} {size : Int32} {uw : Bool} {steps : Nat → Int32} {rl : Option Prog} (hrl : RlC nul size uw steps rl) {ms x : Nat} (hms : ms ≤ 99) (hx : x < R) (p : Nat) :
    ∃ g : Bool, x7_mayTake nul (I ms) tg (A 6) (A 2) (A 3) (I x) (I p) = some g ∧ (g = true → A 2 x = I p ∧ Nn (A 6) x ≤ ms) ∧ (g = false → A 2 x = I p → Nn (A 6) x ≤ ms → rl = none ∧ ¬ d (Nn (A 3) x) < d (Nn (A 2) x)) := by
  obtain ⟨⟨e6, l6⟩, _⟩ := h.r hx
  have hR := h.2.1
  unfold x7_mayTake
  rw [startOf_I _ (by omega), Option.bind_some]
  by_cases hp : A 2 x = I p
  · rw [if_pos hp, daI h hx, Option.bind_some, e6]
    by_cases hm : Nn (A 6) x ≤ ms
    · rw [if_neg (by rw [I_lt (by omega) (by omega)]; omega)]
      rcases hrl with ⟨rfl, rfl⟩ | ⟨rfl, Q, rfl, hT⟩
      · rw [bif_t, m_near h hd hx, Option.bind_some]
        by_cases q : d (Nn (A 3) x) < d (Nn (A 2) x)
        · rw [decide_eq_true q, bif_t]
          exact ⟨true, rfl, fun _ => ⟨hp, hm⟩, fun h => (by cases h)⟩
        · rw [decide_eq_false q, bif_f]
          exact ⟨false, rfl, fun h => (by cases h), fun _ _ _ => ⟨rfl, q⟩⟩
      · rw [bif_f]
        exact ⟨true, rfl, fun _ => ⟨hp, hm⟩, fun h => (by cases h)⟩
    · rw [if_pos (by rw [I_lt (by omega) (by omega)]; omega)]
      exact ⟨false, rfl, fun h => (by cases h), fun _ _ h => absurd h hm⟩
  · rw [if_neg hp]
    exact ⟨false, rfl, fun h => (by cases h), fun _ h => absurd h hp⟩
end trip
/-- a car that takes one along -/
def Gd (A : Nat → Nat → Int32) (pe we sg : Int32) (lw rl : Option Prog) (seed : Int32) (d : Nat → Nat) (ms p s x t : Nat) : Bool :=
  gS A pe we sg lw seed p x t && (decide (Nn (A 6) x ≤ ms) && gIB A pe we sg rl d x t (t - s))
def lx (G : Nat → Nat → Bool) (R : Nat) : Nat → Nat → Option (Nat × Nat)
  | 0, _ => none
  | n + 1, t => match fnd (fun x => G x t) R 0 with
    | some x => some (t, x)
    | none => lx G R n (t + 1)
theorem lx_none {G : Nat → Nat → Bool} {R : Nat} : ∀ n t, (∀ u x, t ≤ u → u < t + n → x < R → G x u = false) → lx G R n t = none := by
  intro n
  induction n with
  | zero => intro t _; rfl
  | succ n ih =>
    intro t h
    unfold lx
    rw [fnd_none R 0 (fun x _ hx => h t x (Nat.le_refl _) (by omega) (by omega))]
    exact ih (t + 1) (fun u x h1 h2 hx => h u x (by omega) (by omega) hx)
theorem lx_some {G : Nat → Nat → Bool} {R x : Nat} (hx : x < R) : ∀ n t u, t ≤ u → u < t + n → G x u = true → (∀ w y, t ≤ w → w < u → y < R → G y w = false) → (∀ y, y < x → G y u = false) → lx G R n t = some (u, x) := by
  intro n
  induction n with
  | zero => intro t u h1 h2; omega
  | succ n ih =>
    intro t u h1 h2 h3 h4 h5
    unfold lx
    by_cases e : t = u
    · subst e
      have h6 := fnd_skip (p := fun y => G y t) (b := R) x 0 (fun y _ hy => h5 y (by omega))
      rw [Nat.zero_add] at h6
      rw [show fnd (fun x => G x t) R 0 = fnd (fun x => G x t) (R - 0) 0 by rw [Nat.sub_zero], h6, fnd_hit hx h3]
    · rw [fnd_none R 0 (fun y _ hy => h4 t y (Nat.le_refl _) (by omega) (by omega))]
      exact ih (t + 1) u (by omega) (by omega) h3 (fun w y a b c => h4 w y (by omega) b c) h5
def bby (r : Option (Nat × Nat)) : Int32 := match r with
  | none => -1
  | some q => I q.2
def bat (r : Option (Nat × Nat)) : Int32 := match r with
  | none => 1440
  | some q => I q.1
section trip
variable {P R : Nat} {A : Nat → Nat → Int32}
/-- what stands behind the roads below x -/
def BInv (G : Nat → Nat → Bool) (s x b : Nat) (z : Option Nat) : Prop :=
  (z = none ∧ b = 1440 ∧ ∀ y t, y < x → s ≤ t → t < 1440 → G y t = false) ∨ (∃ y, z = some y ∧ y < x ∧ s ≤ b ∧ b < 1440 ∧ G y b = true ∧ (∀ w t, w < x → s ≤ t → t < b → G w t = false) ∧ ∀ w, w < y → G w b = false)
def zI (z : Option Nat) : Int32 := match z with
  | none => -1
  | some y => I y
theorem BInv.le {G : Nat → Nat → Bool} {s x b : Nat} {z : Option Nat} (h : BInv G s x b z) : b ≤ 1440 := by
  rcases h with ⟨_, h, _⟩ | ⟨_, _, _, _, h, _⟩ <;> omega
theorem BInv.next {G : Nat → Nat → Bool} {s x b : Nat} {z : Option Nat} (h : BInv G s x b z) (h1 : ∀ t, s ≤ t → t < b → G x t = false) : BInv G s (x + 1) b z := by
  rcases h with ⟨a1, a2, a3⟩ | ⟨y, a1, a2, a3, a4, a5, a6, a7⟩
  · refine Or.inl ⟨a1, a2, fun y t hy h2 h3 => ?_⟩
    by_cases e : y = x
    · rw [e]; exact h1 t h2 (by omega)
    · exact a3 y t (by omega) h2 h3
  · refine Or.inr ⟨y, a1, by omega, a3, a4, a5, fun w t hw h2 h3 => ?_, a7⟩
    by_cases e : w = x
    · rw [e]; exact h1 t h2 h3
    · exact a6 w t (by omega) h2 h3
theorem BInv.take {G : Nat → Nat → Bool} {s x b t : Nat} {z : Option Nat} (h : BInv G s x b z) (hs : s ≤ t) (ht : t < b) (hg : G x t = true) (h1 : ∀ u, s ≤ u → u < t → G x u = false) : BInv G s (x + 1) t (some x) := by
  have hb := h.le
  have hold : ∀ y u, y < x → s ≤ u → u < b → G y u = false := by
    rcases h with ⟨a1, a2, a3⟩ | ⟨y, a1, a2, a3, a4, a5, a6, a7⟩
    · exact fun y u h1 h2 h3 => a3 y u h1 h2 (by omega)
    · exact a6
  refine Or.inr ⟨x, rfl, by omega, hs, by omega, hg, fun w u hw h2 h3 => ?_, fun w hw => hold w t hw hs ht⟩
  by_cases e : w = x
  · rw [e]; exact h1 u h2 h3
  · exact hold w u (by omega) h2 (by omega)
theorem m_board57 (h : LandOk P R A) {pe we sg seed : Int32} (hpe : In pe 1 2) {nul : Bool} {size : Int32} {steps : Nat → Int32} {lw : Option Prog} (hlw : LwC nul size steps lw) {round : Int32} {tg : Nat → Int32} {d : Nat → Nat} (hd : Row8 tg d) {rnul : Bool} {rsize : Int32} {ruw : Bool} {rsteps : Nat → Int32} {rl : Option Prog} (hrl : RlC rnul rsize ruw rsteps rl) {ground : Int32} {ms p s x : Nat} (hx : x < R) (hp : A 2 x = I p) (hms : Nn (A 6) x ≤ ms) (hs : s < 10000) (mI bd p1 : Int32) {b : Nat} {z : Option Nat} (hI : BInv (Gd A pe we sg lw rl seed d ms p s) s x b z)
    (k10 : (Nat → Int32) → (Nat → Int32) → (Nat → Int32) → (Nat → Int32) → (Nat → Int32) → (Nat → Int32) → (Nat → Int32) → Int32 → Int32 → Int32 → Option (Int32 × Int32 × (Nat → Int32) × (Nat → Int32) × (Nat → Int32) × (Nat → Int32) × (Nat → Int32) × (Nat → Int32) × (Nat → Int32))) :
    ∀ m n u fa rounds values grounds gvalues stk rstk c, 1440 - u ≤ m → m < n → s ≤ u → s + c ≤ u → (∀ t, s ≤ t → t < u → t < b → Gd A pe we sg lw rl seed d ms p s x t = false) → CacheOk round rounds values (bV A pe we sg lw) → GC A pe we sg rl d ruw ground grounds gvalues →
      ∃ b' z' fa' rounds' values' grounds' gvalues' stk' rstk', x7_board_57 k10 nul rnul pe we sg seed mI bd round ground (I R) size rsize ruw tg (A 6) (A 4) (A 2) (A 1) (A 0) (A 3) steps rsteps p1 (I s) (I b) (zI z) (I x) n fa rounds values grounds gvalues stk rstk (ans A x (fnd (stB A pe we sg lw seed x) (b - u) u)) (I c) = k10 fa' rounds' values' grounds' gvalues' stk' rstk' (I b') (zI z') (I x + 1) ∧ BInv (Gd A pe we sg lw rl seed d ms p s) s (x + 1) b' z' ∧ CacheOk round rounds' values' (bV A pe we sg lw) ∧ GC A pe we sg rl d ruw ground grounds' gvalues' := by
  obtain ⟨_, ⟨e4, l4, l4'⟩, _⟩ := h.r hx
  have hb := hI.le
  have hG : ∀ t, Gd A pe we sg lw rl seed d ms p s x t = (stB A pe we sg lw seed x t && gIB A pe we sg rl d x t (t - s)) := by
    intro t; unfold Gd gS; rw [decide_eq_true hp, decide_eq_true hms, Bool.true_and, Bool.true_and]
  intro m
  induction m with
  | zero =>
    intro n u fa rounds values grounds gvalues stk rstk c hm hn hsu hc hno hC hGC
    obtain ⟨n, rfl⟩ : ∃ k, n = k + 1 := ⟨n - 1, by omega⟩
    refine ⟨b, z, fa, rounds, values, grounds, gvalues, stk, rstk, ?_, hI.next (fun t h1 h2 => hno t h1 (by omega) h2), hC, hGC⟩
    rw [show b - u = 0 by omega]
    show x7_board_57 k10 nul rnul pe we sg seed mI bd round ground (I R) size rsize ruw tg (A 6) (A 4) (A 2) (A 1) (A 0) (A 3) steps rsteps p1 (I s) (I b) (zI z) (I x) (n + 1) fa rounds values grounds gvalues stk rstk (-1) (I c) = _
    rw [x7_board_57]
    by_cases q : (1440 : Int32) ≤ I c
    · rw [if_pos q, x7_board_127]
    · rw [if_neg q, if_pos (by decide), x7_board_127]
  | succ m ih =>
    intro n u fa rounds values grounds gvalues stk rstk c hm hn hsu hc hno hC hGC
    obtain ⟨n, rfl⟩ : ∃ k, n = k + 1 := ⟨n - 1, by omega⟩
    cases hf : fnd (stB A pe we sg lw seed x) (b - u) u with
    | none =>
      have hnn := fnd_none' _ _ hf
      refine ⟨b, z, fa, rounds, values, grounds, gvalues, stk, rstk, ?_, hI.next (fun t h1 h2 => ?_), hC, hGC⟩
      · show x7_board_57 k10 nul rnul pe we sg seed mI bd round ground (I R) size rsize ruw tg (A 6) (A 4) (A 2) (A 1) (A 0) (A 3) steps rsteps p1 (I s) (I b) (zI z) (I x) (n + 1) fa rounds values grounds gvalues stk rstk (-1) (I c) = _
        rw [x7_board_57]
        by_cases q : (1440 : Int32) ≤ I c
        · rw [if_pos q, x7_board_127]
        · rw [if_neg q, if_pos (by decide), x7_board_127]
      · by_cases q : t < u
        · exact hno t h1 q h2
        · rw [hG, hnn t (by omega) (by omega), Bool.false_and]
    | some t =>
      obtain ⟨f1, f2, f3, f4⟩ := fnd_some _ _ _ hf
      obtain ⟨s1, s2, s3⟩ := stB_is f3
      have htb : t < b := by omega
      obtain ⟨c1, c2⟩ := car_min (A := A) (x := x) (j := fc A x t) l4 l4'
      rw [s2] at c2
      have hno2 : ∀ v, s ≤ v → v < t → Gd A pe we sg lw rl seed d ms p s x v = false := by
        intro v h1 h2
        by_cases q : v < u
        · exact hno v h1 q (by omega)
        · rw [hG, f4 v (by omega) h2, Bool.false_and]
      have eN : (I t - I s : Int32) = I (t - s) := I_sub (by omega)
      obtain ⟨fa1, r1, v1, k1, e1, hGC1⟩ := m_getsIn h hd hrl hGC (w := t - s) hx (t := t) (by omega) fa rstk
      show ∃ b' z' fa' rounds' values' grounds' gvalues' stk' rstk', x7_board_57 k10 nul rnul pe we sg seed mI bd round ground (I R) size rsize ruw tg (A 6) (A 4) (A 2) (A 1) (A 0) (A 3) steps rsteps p1 (I s) (I b) (zI z) (I x) (n + 1) fa rounds values grounds gvalues stk rstk (I (fc A x t)) (I c) = _ ∧ _
      rw [x7_board_57, if_neg (by show ¬ (I 1440 ≤ I c); rw [I_le (by omega) (by omega)]; omega), if_neg (by show ¬ (_ < I 0); rw [I_lt (by omega) (by omega)]; omega), passI h hx (by omega), Option.bind_some, s2, eN, e1, Option.bind_some]
      cases hgi : gIB A pe we sg rl d x t (t - s)
      · rw [bif_f]
        obtain ⟨fa2, r2, v2, k2, e2, hC2⟩ := m_nextStop (seed := seed) h hpe hlw hx hb hC (t := t + 1) (by omega) fa1 stk
        rw [c2] at e2
        rw [I_succ, I_succ, e2, Option.bind_some]
        refine ih n (t + 1) fa2 r2 v2 r1 v1 k2 k1 (c + 1) (by omega) (by omega) (by omega) (by omega) (fun v h1 h2 h3 => ?_) hC2 hGC1
        by_cases q : v < t
        · exact hno2 v h1 q
        · rw [show v = t by omega, hG, hgi, Bool.and_false]
      · rw [bif_t, x7_board_98, x7_board_127]
        exact ⟨t, some x, fa1, rounds, values, r1, v1, stk, k1, rfl, hI.take (by omega) htb (by rw [hG, f3, hgi]; rfl) hno2, hC, hGC1⟩
theorem m_board10 (h : LandOk P R A) {pe we sg seed : Int32} (hpe : In pe 1 2) {nul : Bool} {size : Int32} {steps : Nat → Int32} {lw : Option Prog} (hlw : LwC nul size steps lw) {round : Int32} {tg : Nat → Int32} {d : Nat → Nat} (hd : Row8 tg d) {rnul : Bool} {rsize : Int32} {ruw : Bool} {rsteps : Nat → Int32} {rl : Option Prog} (hrl : RlC rnul rsize ruw rsteps rl) {ground : Int32} {ms p s : Nat} (hms : ms ≤ 99) (hs : s < 10000) (bd : Int32) :
    ∀ m n x b z fa rounds values grounds gvalues stk rstk, x + m = R → m < n → BInv (Gd A pe we sg lw rl seed d ms p s) s x b z → CacheOk round rounds values (bV A pe we sg lw) → GC A pe we sg rl d ruw ground grounds gvalues →
      ∃ fa' rounds' values' grounds' gvalues' stk' rstk', x7_board_10 nul rnul pe we sg seed (I ms) bd round ground (I R) size rsize ruw tg (A 6) (A 4) (A 2) (A 1) (A 0) (A 3) steps rsteps (I p) (I s) n fa rounds values grounds gvalues stk rstk (I b) (zI z) (I x) = some (bby (lx (Gd A pe we sg lw rl seed d ms p s) R (1440 - s) s), bat (lx (Gd A pe we sg lw rl seed d ms p s) R (1440 - s) s), fa', rounds', values', grounds', gvalues', stk', rstk') ∧ CacheOk round rounds' values' (bV A pe we sg lw) ∧ GC A pe we sg rl d ruw ground grounds' gvalues' := by
  have hR := h.2.1
  intro m
  induction m with
  | zero =>
    intro n x b z fa rounds values grounds gvalues stk rstk hx hn hI hC hGC
    obtain ⟨n, rfl⟩ : ∃ k, n = k + 1 := ⟨n - 1, by omega⟩
    have hxR : x = R := by omega
    subst hxR
    refine ⟨fa, rounds, values, grounds, gvalues, stk, rstk, ?_, hC, hGC⟩
    rw [x7_board_10, if_pos (by rw [I_le (by omega) (by omega)]; omega)]
    rcases hI with ⟨a1, a2, a3⟩ | ⟨y, a1, a2, a3, a4, a5, a6, a7⟩
    · rw [lx_none _ _ (fun u y h1 h2 hy => a3 y u hy h1 (by omega)), a1, a2]; rfl
    · rw [lx_some a2 (1440 - s) s b a3 (by omega) a5 (fun w y h1 h2 hy => a6 y w hy h1 h2) a7, a1]; rfl
  | succ m ih =>
    intro n x b z fa rounds values grounds gvalues stk rstk hx hn hI hC hGC
    obtain ⟨n, rfl⟩ : ∃ k, n = k + 1 := ⟨n - 1, by omega⟩
    have hxR : x < R := by omega
    obtain ⟨g, e1, g1, g2⟩ := m_mayTake h hd hrl hms hxR p
    rw [x7_board_10, if_neg (by rw [I_le (by omega) (by omega)]; omega), e1, Option.bind_some]
    cases g
    · rw [bif_f, x7_board_127, I_succ]
      refine ih n (x + 1) b z fa rounds values grounds gvalues stk rstk (by omega) (by omega) (hI.next (fun t h1 h2 => ?_)) hC hGC
      unfold Gd gS
      by_cases q1 : A 2 x = I p
      · by_cases q2 : Nn (A 6) x ≤ ms
        · obtain ⟨r1, r2⟩ := g2 rfl q1 q2
          have : gIB A pe we sg rl d x t (t - s) = false := by
            rw [r1]; exact decide_eq_false r2
          rw [this, Bool.and_false, Bool.and_false]
        · rw [decide_eq_false q2, Bool.false_and, Bool.and_false]
      · rw [decide_eq_false q1, Bool.false_and, Bool.false_and]
    · obtain ⟨q1, q2⟩ := g1 rfl
      obtain ⟨fa1, r1, v1, k1, e2, hC1⟩ := m_nextStop (seed := seed) h hpe hlw hxR hI.le hC (t := s) hs fa stk
      rw [bif_t, fcI h hxR hs, Option.bind_some, e2, Option.bind_some]
      obtain ⟨b', z', fa', rounds', values', grounds', gvalues', stk', rstk', e3, hI', hC', hGC'⟩ := m_board57 (seed := seed) h hpe hlw (round := round) hd hrl (ground := ground) hxR q1 q2 hs (I ms) bd (I p) hI (fun z0 z1 z2 z3 z4 z5 z6 z7 z8 z9 => x7_board_10 nul rnul pe we sg seed (I ms) bd round ground (I R) size rsize ruw tg (A 6) (A 4) (A 2) (A 1) (A 0) (A 3) steps rsteps (I p) (I s) n z0 z1 z2 z3 z4 z5 z6 z7 z8 z9) 1440 yN s fa1 r1 v1 grounds gvalues k1 rstk 0 (by omega) (by unfold yN; omega) (Nat.le_refl _) (by omega) (fun t h1 h2 => by omega) hC1 hGC
      have e3' := e3
      rw [I_succ] at e3'
      obtain ⟨fa2, r2, v2, gr2, gv2, k2, rk2, e4, q4, q5⟩ := ih n (x + 1) b' z' fa' rounds' values' grounds' gvalues' stk' rstk' (by omega) (by omega) hI' hC' hGC'
      exact ⟨fa2, r2, v2, gr2, gv2, k2, rk2, e3'.trans e4, q4, q5⟩
end trip

/-! how far: both sides' loops -/
theorem I_succ (n : Nat) : I n + 1 = I (n + 1) := I_add n 1
/-- the number of a value -/
def Nn (f : Nat → Int32) (j : Nat) : Nat := (f j).toNatClampNeg
theorem In_N {v : Int32} {a b : Nat} (h : In v a b) (hb : b < 2147483648) : v = I v.toNatClampNeg ∧ a ≤ v.toNatClampNeg ∧ v.toNatClampNeg ≤ b := by
  obtain ⟨n, h1, h2, rfl⟩ := h
  rw [I_clamp (by omega)]; exact ⟨rfl, h1, h2⟩
theorem RoadsOk.n {P R : Nat} {danger flow frm len to : Nat → Int32} (h : RoadsOk P R danger flow frm len to) (hP : P ≤ 8) {j : Nat} (hj : j < R) :
    (danger j = I (Nn danger j) ∧ Nn danger j ≤ 99) ∧ (flow j = I (Nn flow j) ∧ 1 ≤ Nn flow j ∧ Nn flow j ≤ 60) ∧ (frm j = I (Nn frm j) ∧ Nn frm j < P) ∧ (len j = I (Nn len j) ∧ 1 ≤ Nn len j ∧ Nn len j ≤ 300) ∧ (to j = I (Nn to j) ∧ Nn to j < P) ∧ Nn frm j ≠ Nn to j := by
  obtain ⟨h1, h2, ⟨a, ha, e1⟩, h4, ⟨b, hb, e2⟩, h6⟩ := h j hj
  have q1 := In_N h1 (by omega)
  have q2 := In_N h2 (by omega)
  have q4 := In_N h4 (by omega)
  have q3 : Nn frm j = a := by unfold Nn; rw [e1, I_clamp (by omega)]
  have q5 : Nn to j = b := by unfold Nn; rw [e2, I_clamp (by omega)]
  refine ⟨⟨q1.1, q1.2.2⟩, ⟨q2.1, q2.2.1, q2.2.2⟩, ⟨by rw [q3]; exact e1, by omega⟩, ⟨q4.1, q4.2.1, q4.2.2⟩, ⟨by rw [q5]; exact e2, by omega⟩, ?_⟩
  intro hh
  apply h6
  rw [e1, e2, ← q3, ← q5, hh]
/-- what the loops need of the roads -/
def RdN (P R : Nat) (frm len to : Nat → Int32) (fr ln t : Nat → Nat) : Prop := R ≤ 16 ∧ P ≤ 8 ∧ ∀ j, j < R → frm j = I (fr j) ∧ fr j < P ∧ to j = I (t j) ∧ t j < P ∧ len j = I (ln j) ∧ 1 ≤ ln j ∧ ln j ≤ 300
theorem RoadsOk.rd {P R : Nat} {danger flow frm len to : Nat → Int32} (h : RoadsOk P R danger flow frm len to) (hP : P ≤ 8) (hR : R ≤ 16) : RdN P R frm len to (Nn frm) (Nn len) (Nn to) := by
  refine ⟨hR, hP, fun j hj => ?_⟩
  obtain ⟨_, _, h1, h2, h3, _⟩ := h.n hP hj
  exact ⟨h1.1, h1.2, h3.1, h3.2, h2.1, h2.2.1, h2.2.2⟩
/-- a row of eight numbers -/
def Row8 (a : Nat → Int32) (d : Nat → Nat) : Prop := ∀ v, v < 8 → a v = I (d v) ∧ d v ≤ 9999
theorem Row8.relx_ {a : Nat → Int32} {d fr t ln : Nat → Nat} {x : Nat} (h : Row8 a d) (hf : fr x < 8) (hc : d (t x) + ln x < d (fr x)) : Row8 (upd a (fr x) (I (d (t x) + ln x))) (relx fr t ln x d) := by
  intro v hv
  have h2 := h (fr x) hf
  unfold upd relx
  by_cases e : v = fr x
  · rw [if_pos e, if_pos ⟨e, by rw [e]; exact hc⟩]
    exact ⟨rfl, by omega⟩
  · rw [if_neg e, if_neg (fun h => e h.1)]
    exact h v hv
theorem relx_no {d fr t ln : Nat → Nat} {x : Nat} (hc : ¬ d (t x) + ln x < d (fr x)) : relx fr t ln x d = d := by
  funext v
  unfold relx
  by_cases e : v = fr x
  · rw [if_neg]; rintro ⟨_, h⟩; rw [e] at h; exact hc h
  · rw [if_neg (fun h => e h.1)]
section farx
variable {P R : Nat} {frm len to : Nat → Int32} {fr ln t : Nat → Nat}
theorem mt50 (hr : RdN P R frm len to fr ln t) (k32 : (Nat → Int32) → Int32 → Int32 → Option (Nat → Int32)) (l4 : Int32) :
    ∀ m n x a l3 d, x + m = R → m < n → Row8 a d →
      ∃ a' l3', x3_measureTo_50 k32 (I P) (I R) frm len to l4 n a l3 (I x) = k32 a' l3' (l4 + 1) ∧ Row8 a' (rnd fr t ln m x d) ∧ (l3' = I 1 ∨ (l3' = l3 ∧ rnd fr t ln m x d = d)) := by
  obtain ⟨hR, hP, hj⟩ := hr
  intro m
  induction m with
  | zero =>
    intro n x a l3 d hx hn ha
    obtain ⟨n, rfl⟩ : ∃ k, n = k + 1 := ⟨n - 1, by omega⟩
    refine ⟨a, l3, ?_, ha, Or.inr ⟨rfl, rfl⟩⟩
    rw [x3_measureTo_50, if_pos (by rw [I_le (by omega) (by omega)]; omega)]
    rfl
  | succ m ih =>
    intro n x a l3 d hx hn ha
    obtain ⟨n, rfl⟩ : ∃ k, n = k + 1 := ⟨n - 1, by omega⟩
    obtain ⟨h1, h2, h3, h4, h5, h6, h7⟩ := hj x (by omega)
    have a1 := ha (t x) (by omega)
    have a2 := ha (fr x) (by omega)
    have c1 := I_clamp (n := x) (by omega)
    have c2 := I_clamp (n := t x) (by omega)
    have c3 := I_clamp (n := fr x) (by omega)
    have i1 : inB (I x) 16 = true := by rw [I_inB (by omega)]; exact decide_eq_true (by omega)
    have i2 : inB (I (t x)) 8 = true := by rw [I_inB (by omega)]; exact decide_eq_true (by omega)
    have i3 : inB (I (fr x)) 8 = true := by rw [I_inB (by omega)]; exact decide_eq_true (by omega)
    have g1 : ¬ (I R ≤ I x) := by rw [I_le (by omega) (by omega)]; omega
    have s1 := startOf_I frm (n := x) (by omega)
    have s2 := endOf_I to (n := x) (by omega)
    have s3 := minutesOf_I len (n := x) (by omega)
    rw [h1] at s1
    rw [h3] at s2
    rw [h5] at s3
    have s4 : x3_hasPlace (I P) (I (fr x)) = some true := by rw [hasPlace_I hP (by omega), decide_eq_true h2]
    have s5 : x3_hasPlace (I P) (I (t x)) = some true := by rw [hasPlace_I hP (by omega), decide_eq_true h4]
    rw [x3_measureTo_50, if_neg g1]
    by_cases hc : d (t x) + ln x < d (fr x)
    · have g2 : ¬ (I (d (fr x)) ≤ I (d (t x)) + I (ln x)) := by rw [I_add, I_le (by omega) (by omega)]; omega
      obtain ⟨a', l3', e, q1, q2⟩ := ih n (x + 1) (upd a (fr x) (I (d (t x) + ln x))) (I 1) (relx fr t ln x d) (by omega) (by omega) (ha.relx_ (by omega) hc)
      refine ⟨a', l3', ?_, q1, Or.inl ?_⟩
      · simp only [s1, s2, s3, s4, s5, Option.bind_some, c2, c3, i2, i3, a1.1, a2.1, if_neg g2, bif_t]
        rw [x3_measureTo_126, I_succ, I_add]
        exact e
      · rcases q2 with h | ⟨h, _⟩
        · exact h
        · exact h
    · have g2 : I (d (fr x)) ≤ I (d (t x)) + I (ln x) := by rw [I_add, I_le (by omega) (by omega)]; omega
      obtain ⟨a', l3', e, q1, q2⟩ := ih n (x + 1) a l3 d (by omega) (by omega) ha
      have hd : rnd fr t ln (m + 1) x d = rnd fr t ln m (x + 1) d := by
        show rnd fr t ln m (x + 1) (relx fr t ln x d) = _
        rw [relx_no hc]
      rw [hd]
      refine ⟨a', l3', ?_, q1, q2⟩
      simp only [s1, s2, s3, s4, s5, Option.bind_some, c2, c3, i2, i3, a1.1, a2.1, if_pos g2, bif_t]
      rw [x3_measureTo_126, I_succ]
      exact e
theorem mt32 (hr : RdN P R frm len to fr ln t) (d0 : Nat → Nat) :
    ∀ m n k a l3, k + m = P → m < n → Row8 a (itr (rnd fr t ln R 0) k d0) → (l3 = I 0 → rnd fr t ln R 0 (itr (rnd fr t ln R 0) k d0) = itr (rnd fr t ln R 0) k d0) →
      ∃ a', x3_measureTo_32 (I P) (I R) frm len to n a l3 (I k) = some a' ∧ Row8 a' (itr (rnd fr t ln R 0) 8 d0) := by
  have hr' := hr
  obtain ⟨hR, hP, hj⟩ := hr'
  have fin : ∀ k a, k ≤ 8 → Row8 a (itr (rnd fr t ln R 0) k d0) → rnd fr t ln R 0 (itr (rnd fr t ln R 0) k d0) = itr (rnd fr t ln R 0) k d0 → Row8 a (itr (rnd fr t ln R 0) 8 d0) := by
    intro k a hk h1 h2
    have h3 := itr_fix h2 (8 - k)
    rw [show k + (8 - k) = 8 by omega] at h3
    rw [h3]; exact h1
  intro m
  induction m with
  | zero =>
    intro n k a l3 hk hn ha hl
    obtain ⟨n, rfl⟩ : ∃ k, n = k + 1 := ⟨n - 1, by omega⟩
    refine ⟨a, ?_, fin k a (by omega) ha ?_⟩
    · rw [x3_measureTo_32, if_pos (by rw [I_le (by omega) (by omega)]; omega)]
    · rw [show k = P by omega]
      exact rnd_fix (P := P) (fun y hy => (hj y hy).2.1) (fun y hy => (hj y hy).2.2.2.2.2.1)
  | succ m ih =>
    intro n k a l3 hk hn ha hl
    obtain ⟨n, rfl⟩ : ∃ k, n = k + 1 := ⟨n - 1, by omega⟩
    rw [x3_measureTo_32, if_neg (by rw [I_le (by omega) (by omega)]; omega)]
    by_cases h0 : l3 = I 0
    · rw [if_pos (show l3 = 0 from h0)]
      exact ⟨a, rfl, fin k a (by omega) ha (hl h0)⟩
    · rw [if_neg (show ¬ (l3 = 0) from h0)]
      obtain ⟨a', l3', e, q1, q2⟩ := mt50 hr (fun z0 z1 z2 => x3_measureTo_32 (I P) (I R) frm len to n z0 z1 z2) (I k) R yN 0 a (I 0) (itr (rnd fr t ln R 0) k d0) (by omega) (by unfold yN; omega) ha
      obtain ⟨a2, e2, q3⟩ := ih n (k + 1) a' l3' (by omega) (by omega) q1 (by
        intro h
        rcases q2 with h2 | ⟨_, h2⟩
        · rw [h2, I_eq (by omega) (by omega)] at h; omega
        · show rnd fr t ln R 0 (rnd fr t ln R 0 (itr (rnd fr t ln R 0) k d0)) = rnd fr t ln R 0 (itr (rnd fr t ln R 0) k d0)
          rw [h2, h2])
      refine ⟨a2, ?_, q3⟩
      refine Eq.trans e ?_
      rw [I_succ]; exact e2
theorem fill8 (p : Int32) : ∀ m n x a, x + m = 8 → m < n → (∀ v, v < x → a v = p) → ∃ a', xj7_fill_53178_5 p 8 n a (I x) = some a' ∧ ∀ v, v < 8 → a' v = p := by
  intro m
  induction m with
  | zero =>
    intro n x a hx hn ha
    obtain ⟨n, rfl⟩ : ∃ k, n = k + 1 := ⟨n - 1, by omega⟩
    refine ⟨a, ?_, fun v hv => ha v (by omega)⟩
    rw [xj7_fill_53178_5, if_pos (by show I 8 ≤ I x; rw [I_le (by omega) (by omega)]; omega)]
  | succ m ih =>
    intro n x a hx hn ha
    obtain ⟨n, rfl⟩ : ∃ k, n = k + 1 := ⟨n - 1, by omega⟩
    have i1 : inB (I x) 8 = true := by rw [I_inB (by omega)]; exact decide_eq_true (by omega)
    rw [xj7_fill_53178_5, if_neg (by show ¬ (I 8 ≤ I x); rw [I_le (by omega) (by omega)]; omega), i1, I_succ, I_clamp (by omega)]
    exact ih n (x + 1) (upd a x p) (by omega) (by omega) (fun v hv => by unfold upd; split; rfl; exact ha v (by omega))
theorem m_measure (hr : RdN P R frm len to fr ln t) (a : Nat → Int32) {g : Nat} (hg : g < 8) :
    ∃ a', x3_measureTo (I P) (I R) frm len to a (I g) = some a' ∧ Row8 a' (farD P R fr t ln g) := by
  obtain ⟨o1, e1, q1⟩ := fill8 9999 8 yN 0 a (by omega) (by unfold yN; omega) (fun v hv => absurd hv (Nat.not_lt_zero _))
  have e1' : xj7_fill_53178 a 9999 = some o1 := e1
  unfold x3_measureTo
  rw [e1', Option.bind_some, hasPlace_I hr.2.1 (by omega), Option.bind_some]
  by_cases h : g < P
  · have i1 : inB (I g) 8 = true := by rw [I_inB (by omega)]; exact decide_eq_true (by omega)
    rw [decide_eq_true h, i1, bif_t, if_pos (by decide), bif_t, I_clamp (by omega)]
    refine mt32 hr (farS P g) P yN 0 (upd o1 g 0) (I 1) (by omega) (by have := hr.2.1; unfold yN; omega) ?_ (fun h => absurd h (by rw [I_eq (by omega) (by omega)]; omega))
    intro v hv
    show upd o1 g 0 v = I (farS P g v) ∧ farS P g v ≤ 9999
    unfold upd farS
    by_cases e : v = g
    · rw [if_pos e, if_pos ⟨e, h⟩]; exact ⟨rfl, by omega⟩
    · rw [if_neg e, if_neg (fun h => e h.1)]; exact ⟨q1 v hv, by omega⟩
  · rw [decide_eq_false h, bif_f]
    refine ⟨o1, rfl, ?_⟩
    have hs : ∀ v, farS P g v = 9999 := fun v => by unfold farS; rw [if_neg (fun hh => h hh.2)]
    have : farD P R fr t ln g = farS P g := itr_fix (m := 0) (rnd_no hs) 8
    rw [this]
    intro v hv
    rw [hs]; exact ⟨q1 v hv, by omega⟩
theorem la50 (hr : RdN P R frm len to fr ln t) (k42 : (Nat → Int32) → Int32 → Option (Nat → Int32)) (l2 : Int32) :
    ∀ m n x a d, x + m = R → m < n → Row8 a d →
      ∃ a', x9_layAway_50 k42 (I P) (I R) len to frm l2 n a (I x) = k42 a' (l2 + 1) ∧ Row8 a' (rnd fr t ln m x d) := by
  obtain ⟨hR, hP, hj⟩ := hr
  intro m
  induction m with
  | zero =>
    intro n x a d hx hn ha
    obtain ⟨n, rfl⟩ : ∃ k, n = k + 1 := ⟨n - 1, by omega⟩
    refine ⟨a, ?_, ha⟩
    rw [x9_layAway_50, if_pos (by rw [I_le (by omega) (by omega)]; omega)]
    rfl
  | succ m ih =>
    intro n x a d hx hn ha
    obtain ⟨n, rfl⟩ : ∃ k, n = k + 1 := ⟨n - 1, by omega⟩
    obtain ⟨h1, h2, h3, h4, h5, h6, h7⟩ := hj x (by omega)
    have a1 := ha (t x) (by omega)
    have a2 := ha (fr x) (by omega)
    have c1 := I_clamp (n := x) (by omega)
    have c2 := I_clamp (n := t x) (by omega)
    have c3 := I_clamp (n := fr x) (by omega)
    have i1 : inB (I x) 16 = true := by rw [I_inB (by omega)]; exact decide_eq_true (by omega)
    have i2 : inB (I (t x)) 8 = true := by rw [I_inB (by omega)]; exact decide_eq_true (by omega)
    have i3 : inB (I (fr x)) 8 = true := by rw [I_inB (by omega)]; exact decide_eq_true (by omega)
    have g1 : ¬ (I R ≤ I x) := by rw [I_le (by omega) (by omega)]; omega
    rw [x9_layAway_50, if_neg g1]
    by_cases hc : d (t x) + ln x < d (fr x)
    · have g2 : ¬ (I (d (fr x)) ≤ I (d (t x)) + I (ln x)) := by rw [I_add, I_le (by omega) (by omega)]; omega
      have g3 : ¬ ((9999 : Int32) ≤ I (d (t x))) := by show ¬ (I 9999 ≤ _); rw [I_le (by omega) (by omega)]; omega
      obtain ⟨a', e, q1⟩ := ih n (x + 1) (upd a (fr x) (I (d (t x) + ln x))) (relx fr t ln x d) (by omega) (by omega) (ha.relx_ (by omega) hc)
      refine ⟨a', ?_, q1⟩
      simp only [c1, h1, h3, h5, c2, c3, i1, i2, i3, a1.1, a2.1, if_neg g2, if_neg g3, bif_t]
      rw [x9_layAway_124, I_succ, I_add]
      exact e
    · have hd : rnd fr t ln (m + 1) x d = rnd fr t ln m (x + 1) d := by
        show rnd fr t ln m (x + 1) (relx fr t ln x d) = _
        rw [relx_no hc]
      rw [hd]
      obtain ⟨a', e, q1⟩ := ih n (x + 1) a d (by omega) (by omega) ha
      refine ⟨a', ?_, q1⟩
      by_cases h9 : 9999 ≤ d (t x)
      · have g3 : (9999 : Int32) ≤ I (d (t x)) := by show I 9999 ≤ _; rw [I_le (by omega) (by omega)]; omega
        simp only [c1, h1, h3, h5, c2, c3, i1, i2, i3, a1.1, a2.1, if_pos g3, bif_t]
        rw [x9_layAway_124, I_succ]
        exact e
      · have g3 : ¬ ((9999 : Int32) ≤ I (d (t x))) := by show ¬ (I 9999 ≤ _); rw [I_le (by omega) (by omega)]; omega
        have g2 : I (d (fr x)) ≤ I (d (t x)) + I (ln x) := by rw [I_add, I_le (by omega) (by omega)]; omega
        simp only [c1, h1, h3, h5, c2, c3, i1, i2, i3, a1.1, a2.1, if_neg g3, if_pos g2, bif_t]
        rw [x9_layAway_124, I_succ]
        exact e
theorem la42 (hr : RdN P R frm len to fr ln t) (d0 : Nat → Nat) :
    ∀ m n k a, k + m = 8 → m < n → Row8 a (itr (rnd fr t ln R 0) k d0) →
      ∃ a', x9_layAway_42 (I P) (I R) len to frm n a (I k) = some a' ∧ Row8 a' (itr (rnd fr t ln R 0) 8 d0) := by
  have hR := hr.1
  intro m
  induction m with
  | zero =>
    intro n k a hk hn ha
    obtain ⟨n, rfl⟩ : ∃ k, n = k + 1 := ⟨n - 1, by omega⟩
    refine ⟨a, ?_, ?_⟩
    · rw [x9_layAway_42, if_pos (by show I 8 ≤ I k; rw [I_le (by omega) (by omega)]; omega)]
    · rw [show k = 8 by omega] at ha; exact ha
  | succ m ih =>
    intro n k a hk hn ha
    obtain ⟨n, rfl⟩ : ∃ k, n = k + 1 := ⟨n - 1, by omega⟩
    rw [x9_layAway_42, if_neg (by show ¬ (I 8 ≤ I k); rw [I_le (by omega) (by omega)]; omega)]
    obtain ⟨a', e, q1⟩ := la50 hr (fun z0 z1 => x9_layAway_42 (I P) (I R) len to frm n z0 z1) (I k) R yN 0 a (itr (rnd fr t ln R 0) k d0) (by omega) (by unfold yN; omega) ha
    obtain ⟨a2, e2, q3⟩ := ih n (k + 1) a' (by omega) (by omega) q1
    refine ⟨a2, ?_, q3⟩
    refine Eq.trans e ?_
    rw [I_succ]; exact e2
theorem la2 (hr : RdN P R frm len to fr ln t) {g : Nat} (hg : g < 8) :
    ∀ m n x a, x + m = 8 → m < n → (∀ v, v < x → a v = I (farS P g v)) →
      ∃ a', x9_layAway_2 (I P) (I R) len to frm (I g) n a (I x) = some a' ∧ Row8 a' (farD P R fr t ln g) := by
  intro m
  induction m with
  | zero =>
    intro n x a hx hn ha
    obtain ⟨n, rfl⟩ : ∃ k, n = k + 1 := ⟨n - 1, by omega⟩
    rw [x9_layAway_2, if_pos (by show I 8 ≤ I x; rw [I_le (by omega) (by omega)]; omega)]
    refine la42 hr (farS P g) 8 yN 0 a (by omega) (by unfold yN; omega) (fun v hv => ⟨ha v (by omega), ?_⟩)
    show farS P g v ≤ 9999
    unfold farS; split <;> omega
  | succ m ih =>
    intro n x a hx hn ha
    obtain ⟨n, rfl⟩ : ∃ k, n = k + 1 := ⟨n - 1, by omega⟩
    have i1 : inB (I x) 8 = true := by rw [I_inB (by omega)]; exact decide_eq_true (by omega)
    have key : ∀ w, w = I (farS P g x) → ∃ a', x9_layAway_33 (fun z0 z1 => x9_layAway_2 (I P) (I R) len to frm (I g) n z0 z1) (I P) (I R) len to frm (I g) a (I x) (I x) w = some a' ∧ Row8 a' (farD P R fr t ln g) := by
      intro w hw
      rw [x9_layAway_33, i1, bif_t, I_clamp (by omega), I_succ]
      refine ih n (x + 1) (upd a x w) (by omega) (by omega) (fun v hv => ?_)
      unfold upd
      by_cases e : v = x
      · rw [if_pos e, hw, e]
      · rw [if_neg e]; exact ha v (by omega)
    rw [x9_layAway_2, if_neg (by show ¬ (I 8 ≤ I x); rw [I_le (by omega) (by omega)]; omega), isPlace_I hr.2.1 (by omega), Option.bind_some]
    by_cases h1 : x = g
    · rw [if_pos (by rw [h1])]
      by_cases h2 : g < P
      · rw [decide_eq_true h2, bif_t]
        exact key 0 (by unfold farS; rw [if_pos ⟨h1, h2⟩]; rfl)
      · rw [decide_eq_false h2, bif_f]
        exact key 9999 (by unfold farS; rw [if_neg (fun h => h2 h.2)]; rfl)
    · rw [if_neg (by rw [I_eq (by omega) (by omega)]; exact h1)]
      exact key 9999 (by unfold farS; rw [if_neg (fun h => h1 h.1)]; rfl)
theorem m_away (hr : RdN P R frm len to fr ln t) (a : Nat → Int32) {g : Nat} (hg : g < 8) :
    ∃ a', x9_layAway (I P) (I R) a len to frm (I g) = some a' ∧ Row8 a' (farD P R fr t ln g) :=
  la2 hr hg 8 yN 0 a (by omega) (by unfold yN; omega) (fun v hv => absurd hv (Nat.not_lt_zero _))
end farx
section farm
variable {P R : Nat} {frm len to danger flow : Nat → Int32}
theorem m_far (hP : P ≤ 8) (hR : R ≤ 16) (hro : RoadsOk P R danger flow frm len to) (a b : Nat → Int32) (p : Int32) :
    ∃ v a' b', x8_far a (I P) (I R) frm len to p = some (v, a') ∧ x9_far (I P) (I R) b len to frm p = some (v, b') := by
  have hr := hro.rd hP hR
  unfold x8_far x9_far
  rcases hasPair_is hP p with ⟨e1, e2, n, hn, rfl, hn1, hn2⟩ | ⟨e1, e2⟩
  · rw [e1, e2, Option.bind_some, Option.bind_some, bif_t, bif_t]
    have hm : I n - I n / 10 * 10 = I (n % 10) := by
      show I n - I n / I 10 * I 10 = _
      exact I_rem hn (by omega)
    have hd : I n / 10 = I (n / 10) := I_div (b := 10) hn (by omega)
    rw [hm, hd]
    obtain ⟨a', ea, qa⟩ := m_measure hr a (g := n % 10) (by omega)
    obtain ⟨b', eb, qb⟩ := m_away hr b (g := n % 10) (by omega)
    rw [ea, eb, Option.bind_some, Option.bind_some, I_inB (by omega), decide_eq_true (by omega : n / 10 < 8), bif_t, bif_t, I_clamp (by omega)]
    have h1 := qa (n / 10) (by omega)
    have h2 := qb (n / 10) (by omega)
    exact ⟨a' (n / 10), a', b', rfl, by rw [h1.1, h2.1]⟩
  · rw [e1, e2]
    exact ⟨-1, a, b, rfl, rfl⟩
theorem nev (hP : P ≤ 8) {a b : Nat → Int32} {d : Nat → Nat} (ha : Row8 a d) (hb : Row8 b d) (st : Nat → Int32) (g : Int32) :
    ∀ m n1 n2 x l, x + m = P → m < n1 → m < n2 → ∃ v, x8_never_21 a st (I P) (I R) frm len to n1 l (I x) = some (v, a) ∧ x9_never_12 (I P) (I R) g b len to frm n2 l (I x) = some (v, b) := by
  intro m
  induction m with
  | zero =>
    intro n1 n2 x l hx h1 h2
    obtain ⟨n1, rfl⟩ : ∃ k, n1 = k + 1 := ⟨n1 - 1, by omega⟩
    obtain ⟨n2, rfl⟩ : ∃ k, n2 = k + 1 := ⟨n2 - 1, by omega⟩
    have g1 : I P ≤ I x := by rw [I_le (by omega) (by omega)]; omega
    refine ⟨l, ?_, by rw [x9_never_12, if_pos g1]⟩
    rw [x8_never_21]
    by_cases h8 : (8 : Int32) ≤ I x
    · rw [if_pos h8]
    · rw [if_neg h8, hasPlace_I hP (by omega), decide_eq_false (by omega), Option.bind_some, bif_f]
  | succ m ih =>
    intro n1 n2 x l hx h1 h2
    obtain ⟨n1, rfl⟩ : ∃ k, n1 = k + 1 := ⟨n1 - 1, by omega⟩
    obtain ⟨n2, rfl⟩ : ∃ k, n2 = k + 1 := ⟨n2 - 1, by omega⟩
    have g1 : ¬ (I P ≤ I x) := by rw [I_le (by omega) (by omega)]; omega
    have i1 : inB (I x) 8 = true := by rw [I_inB (by omega)]; exact decide_eq_true (by omega)
    have hab : a x = b x := by rw [(ha x (by omega)).1, (hb x (by omega)).1]
    have g8 : ¬ ((8 : Int32) ≤ I x) := by show ¬ (I 8 ≤ I x); rw [I_le (by omega) (by omega)]; omega
    rw [x8_never_21, if_neg g8, hasPlace_I hP (by omega), decide_eq_true (by omega), Option.bind_some, bif_t, i1, bif_t, x9_never_12, if_neg g1, i1, bif_t, I_clamp (by omega), hab]
    by_cases h : b x = 9999
    · rw [if_pos h, if_pos h, x8_never_56, x9_never_40, I_succ]
      exact ih n1 n2 (x + 1) _ (by omega) (by omega) (by omega)
    · rw [if_neg h, if_neg h, x8_never_56, x9_never_40, I_succ, Int32.or_zero]
      exact ih n1 n2 (x + 1) _ (by omega) (by omega) (by omega)
theorem m_never (hP : P ≤ 8) (hR : R ≤ 16) (hro : RoadsOk P R danger flow frm len to) (a b st : Nat → Int32) {g : Nat} (hg : g < 8) (hst : st 0 = I g) :
    ∃ v a' b', x8_never a st (I P) (I R) frm len to = some (v, a') ∧ x9_never (I P) (I R) (I g) b len to frm = some (v, b') := by
  have hr := hro.rd hP hR
  obtain ⟨a', ea, qa⟩ := m_measure hr a hg
  obtain ⟨b', eb, qb⟩ := m_away hr b hg
  obtain ⟨v, e1, e2⟩ := nev (R := R) (frm := frm) (len := len) (to := to) hP qa qb st (I g) P yN yN 0 0 (by omega) (by unfold yN; omega) (by unfold yN; omega)
  refine ⟨v, a', b', ?_, ?_⟩
  · unfold x8_never
    rw [show inB 0 6 = true by decide, bif_t, show (0 : Int32).toNatClampNeg = 0 by decide, hst, ea, Option.bind_some]
    exact e1
  · unfold x9_never
    rw [eb, Option.bind_some]
    exact e2
end farm

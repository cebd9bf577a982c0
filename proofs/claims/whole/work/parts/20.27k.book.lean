/-! book: one law's bookings -/
/-- an element, cut to the day -/
theorem cutDay (e : Int64) : ∃ c, c ≤ 1440 ∧ (if (if e < 1440 then e else 1440) < 0 then (0 : Int64) else (if e < 1440 then e else 1440)).toInt32 = I c ∧
    ((¬ 0 ≤ lg_cmp e 0 ∧ c = 0) ∨ (0 ≤ lg_cmp e 0 ∧ ¬ lg_cmp e 1440 ≤ 0 ∧ c = 1440) ∨ (0 ≤ lg_cmp e 0 ∧ lg_cmp e 1440 ≤ 0 ∧ e.toInt32 = I c)) := by
  have a0 : (0 : Int64).toInt = 0 := by decide
  have a1 : (1440 : Int64).toInt = 1440 := by decide
  have g0 : (0 ≤ lg_cmp e 0) ↔ 0 ≤ e.toInt := by rw [lg_cmp_ge, Int64.le_iff_toInt_le, a0]
  have g1 : (lg_cmp e 1440 ≤ 0) ↔ e.toInt ≤ 1440 := by
    unfold lg_cmp
    by_cases q : e > 1440
    · rw [if_pos q]
      have q' : (1440 : Int64) < e := q
      rw [Int64.lt_iff_toInt_lt, a1] at q'
      refine ⟨fun h => absurd h (by decide), fun h => by omega⟩
    · rw [if_neg q]
      have q' : ¬ (1440 : Int64) < e := q
      rw [Int64.lt_iff_toInt_lt, a1] at q'
      refine ⟨fun _ => by omega, fun _ => ?_⟩
      by_cases w : e = 1440
      · rw [if_pos w]; decide
      · rw [if_neg w]; decide
  have l0 : (e < 1440) ↔ e.toInt < 1440 := by rw [Int64.lt_iff_toInt_lt, a1]
  have l1 : (e < 0) ↔ e.toInt < 0 := by rw [Int64.lt_iff_toInt_lt, a0]
  have tI : ∀ c : Nat, c ≤ 1440 → e.toInt = c → e.toInt32 = I c := by
    intro c hc hec
    apply Int32.toInt_inj.mp
    rw [I_toInt (by omega), Int64.toInt_toInt32, hec, Int.bmod_def]
    omega
  by_cases q0 : e.toInt < 0
  · refine ⟨0, by omega, ?_, Or.inl ⟨by rw [g0]; omega, rfl⟩⟩
    rw [if_pos (l0.mpr (by omega)), if_pos (l1.mpr q0)]; rfl
  · by_cases q1 : e.toInt < 1440
    · obtain ⟨c, hc⟩ : ∃ c : Nat, e.toInt = c := ⟨e.toInt.toNat, by omega⟩
      refine ⟨c, by omega, ?_, Or.inr (Or.inr ⟨by rw [g0]; omega, by rw [g1]; omega, tI c (by omega) hc⟩)⟩
      rw [if_pos (l0.mpr q1), if_neg (fun h => q0 (l1.mp h))]
      exact tI c (by omega) hc
    · rw [if_neg (fun h => q1 (l0.mp h)), if_neg (show ¬ ((1440 : Int64) < 0) by decide)]
      by_cases q2 : e.toInt ≤ 1440
      · exact ⟨1440, by omega, rfl, Or.inr (Or.inr ⟨by rw [g0]; omega, by rw [g1]; omega, tI 1440 (by omega) (by omega)⟩)⟩
      · exact ⟨1440, by omega, rfl, Or.inr (Or.inl ⟨by rw [g0]; omega, by rw [g1]; omega, rfl⟩)⟩
theorem absC {c w : Nat} (hc : c ≤ 1440) (hw : w ≤ 1440) : ∃ v, v ≤ 1440 ∧ (if 0 ≤ I c - I w then I c - I w else 0 - (I c - I w)) = I v ∧ ((I c ≤ I w ∧ I w - I c = I v) ∨ (¬ I c ≤ I w ∧ I c - I w = I v)) := by
  have e : (I c - I w : Int32).toInt = (c : Int) - w := by
    rw [Int32.toInt_sub, I_toInt (by omega), I_toInt (by omega), Int.bmod_def]; omega
  have z : (0 : Int32).toInt = 0 := by decide
  by_cases q : c ≤ w
  · refine ⟨w - c, by omega, ?_, Or.inl ⟨by rw [I_le (by omega) (by omega)]; exact q, I_sub q⟩⟩
    by_cases q2 : c = w
    · subst q2
      rw [if_pos (by rw [Int32.le_iff_toInt_le, e, z]; omega), I_sub (Nat.le_refl _)]
    · rw [if_neg (by rw [Int32.le_iff_toInt_le, e, z]; omega)]
      apply Int32.toInt_inj.mp
      rw [Int32.toInt_sub, e, z, I_toInt (by omega), Int.bmod_def]; omega
  · refine ⟨c - w, by omega, ?_, Or.inr ⟨by rw [I_le (by omega) (by omega)]; exact q, I_sub (by omega)⟩⟩
    rw [if_pos (by rw [Int32.le_iff_toInt_le, e, z]; omega)]; exact I_sub (by omega)
section trip
variable {P R : Nat} {A : Nat → Nat → Int32}
/-- both sums of one law, place by place -/
theorem offLoop (hl : LandOk P R A) {pe we sg seed : Int32} (hpe : In pe 1 2) {nul : Bool} {size : Int32} {steps : Nat → Int32} {lw : Option Prog} (hlw : LwC nul size steps lw) {round : Int32} {st2 : Nat → Int32} (hS : StopsOk R A pe we sg lw seed R st2) {s n : Nat} (hs : s < 6) (hn : n ≤ 60) (hPn : P ≤ n) {cells el : Nat → Int64} (hel : ∀ k, k < n → cells k = el (60 * s + k)) {t : Nat} (ht : t < 1440)
    (k85 : Int32 → (Nat → Int32) → (Nat → Int32) → (Nat → Int32) → Int32 → Int32 → Int32 → Option (Int32 × Int32 × Int32 × Int32 × Int32 × (Nat → Int32) × (Nat → Int32) × (Nat → Int32)))
    (a1 a2 a3 a4 a5 a6 a7 a8 a9 a10 : Int32) (held fa2 len lF lM lT ls op pile val : Nat → Int32) (p3 l4 l5 l6 : Int32) :
    ∀ m n1 n2 v S fa stops rs vs stk, v + m = P → m < n1 → m < n2 → S ≤ 1440 * v → CacheOk round rs vs (bV A pe we sg lw) →
      ∃ S' fa' stops' rs' vs' stk', S' ≤ 1440 * P ∧ CacheOk round rs' vs' (bV A pe we sg lw) ∧ x7_offFrom_5 nul pe we sg seed round (I P) (I R) size (A 6) (A 4) (A 2) (A 1) (A 0) (A 3) steps (I 2) (I n) cells (I t) n1 fa stops rs vs stk (I S) (I v) = some (I S', fa', stops', rs', vs', stk') ∧
        x9_book_110 k85 (I P) (I R) a1 a2 a3 a4 a5 a6 a7 a8 a9 a10 el fa2 (A 4) held (A 3) (A 2) len lF lM lT ls op pile (A 1) (A 6) (A 0) st2 val (I s) (I t) p3 l4 l5 l6 n2 (I S) (I v) = x9_book_219 k85 (I P) (I R) a1 a2 a3 a4 a5 a6 a8 a9 a10 el (A 4) held (A 3) (A 2) len lF lM lT ls op (A 1) (A 6) (A 0) val (I s) (I t) p3 a7 fa2 pile st2 l4 l5 l6 (I S') := by
  have hP := hl.1
  intro m
  induction m with
  | zero =>
    intro n1 n2 v S fa stops rs vs stk hv h1 h2 hSv hC
    obtain ⟨n1, rfl⟩ : ∃ k, n1 = k + 1 := ⟨n1 - 1, by omega⟩
    obtain ⟨n2, rfl⟩ : ∃ k, n2 = k + 1 := ⟨n2 - 1, by omega⟩
    have g : I P ≤ I v := by rw [I_le (by omega) (by omega)]; omega
    refine ⟨S, fa, stops, rs, vs, stk, by omega, hC, ?_, ?_⟩
    · rw [x7_offFrom_5, if_pos g]
    · rw [x9_book_110, if_pos g]
  | succ m ih =>
    intro n1 n2 v S fa stops rs vs stk hv h1 h2 hSv hC
    obtain ⟨n1, rfl⟩ : ∃ k, n1 = k + 1 := ⟨n1 - 1, by omega⟩
    obtain ⟨n2, rfl⟩ : ∃ k, n2 = k + 1 := ⟨n2 - 1, by omega⟩
    have g : ¬ (I P ≤ I v) := by rw [I_le (by omega) (by omega)]; omega
    obtain ⟨q, fa', stops', rs', vs', stk', e1, k1, c1⟩ := m_stopAfter (p := v) (s := t) (k := 1) (seed := seed) hl hpe hlw hC (by omega) ht (by omega) (by omega) fa stops stk
    obtain ⟨q2, e3, k2⟩ := r_kthAt (p := v) (s := t) (k := 1) hl hS ht (by omega) (by omega)
    have hq := k1.uniq k2
    subst hq
    have hqt : ∀ u, q = some u → t ≤ u ∧ u < 1440 := by
      intro u hu
      rcases k1 with ⟨t', a1, a2, _, _, a5⟩ | ⟨_, a5⟩
      · rw [hu] at a5; injection a5 with a5; omega
      · rw [hu] at a5; cases a5
    have e1' : x7_stopAfter nul pe we sg seed round fa (I R) size stops rs vs (A 6) (A 4) (A 2) (A 1) (A 0) (A 3) stk steps (I v) (I t) 1 = some (never q, fa', stops', rs', vs', stk') := e1
    have e3' : x9_kthAt (I R) (A 4) (A 2) st2 (I v) (I t) 1 = some (notR q) := e3
    have e60 : (60 : Int32) * I s + I v = I (60 * s + v) := by show I 60 * I s + I v = _; rw [I_mul, I_add]
    have i360 : inB (I (60 * s + v)) 360 = true := by rw [I_inB (by omega)]; exact decide_eq_true (by omega)
    have cell : x5_cell (I 2) (I n) cells (I v) = some (el (60 * s + v)) := by
      rcases cellsC (q := 2) (c := 1) (by omega) hn (by omega) (I v) with ⟨j', hj', _, d1, _⟩ | ⟨d1, d2⟩
      · have d1' : x5_holdsCells (I 2) (I n) (I v) 1 = some true := d1
        unfold x5_cell
        rw [d1', Option.bind_some, bif_t, I_inB (by omega), decide_eq_true (by omega : v < 60), bif_t, I_clamp (by omega), hel v (by omega)]
      · exfalso
        unfold x9_within at d2
        rw [if_neg (by show ¬ (I v < I 0); rw [I_lt (by omega) (by omega)]; omega), I_sub (by omega), if_neg (by rw [I_lt (by omega) (by omega)]; omega)] at d2
        cases d2
    obtain ⟨c, hc, ec, cc⟩ := cutDay (el (60 * s + v))
    -- the wait
    obtain ⟨w, hw, ew1, ew2⟩ : ∃ w, w ≤ 1440 ∧ ((never q = 2147483647 ∧ w = 1440) ∨ (¬ never q = 2147483647 ∧ never q - I t = I w)) ∧ ∃ r, x9_waitAt (I R) (A 4) (A 2) st2 (I v) (I t) = some r ∧ ((0 ≤ r ∧ r = I w) ∨ (¬ 0 ≤ r ∧ w = 1440)) := by
      unfold x9_waitAt
      rw [e3', Option.bind_some]
      cases q with
      | none => exact ⟨1440, by omega, Or.inl ⟨rfl, rfl⟩, -2, by rw [if_neg (show ¬ ((0 : Int32) ≤ notR none) by decide)], Or.inr ⟨by decide, rfl⟩⟩
      | some u =>
        have hu := hqt u rfl
        refine ⟨u - t, by omega, Or.inr ⟨fun e => ?_, I_sub (by omega)⟩, I (u - t), ?_, Or.inl ⟨?_, rfl⟩⟩
        · have := (never_no (r := some u) (fun x hx => by injection hx with hx; omega)).mp e
          cases this
        · rw [if_pos (show 0 ≤ notR (some u) by show I 0 ≤ I u; rw [I_le (by omega) (by omega)]; omega)]
          exact congrArg some (I_sub (by omega))
        · show I 0 ≤ I (u - t)
          rw [I_le (by omega) (by omega)]; omega
    obtain ⟨r, er, er2⟩ := ew2
    obtain ⟨x, hx, ex1, ex2⟩ := absC hc hw
    obtain ⟨S', fa3, stops3, rs3, vs3, stk3, z1, z2, z3, z4⟩ := ih n1 n2 (v + 1) (S + x) fa' stops' rs' vs' stk' (by omega) (by omega) (by omega) (by omega) c1
    refine ⟨S', fa3, stops3, rs3, vs3, stk3, z1, z2, ?_, ?_⟩
    · rw [x7_offFrom_5, if_neg g, e1', Option.bind_some]
      dsimp only
      rcases ew1 with ⟨w1, w2⟩ | ⟨w1, w2⟩
      · rw [if_pos w1, x7_offFrom_44, cell, Option.bind_some, ec, show (1440 : Int32) = I w by rw [w2]; rfl, ex1, I_add, I_succ]
        exact z3
      · rw [if_neg w1, w2, x7_offFrom_44, cell, Option.bind_some, ec, ex1, I_add, I_succ]
        exact z3
    · have fin : ∀ T : Int32, T = I c → x9_book_162 k85 (fun z0 z1 => x9_book_110 k85 (I P) (I R) a1 a2 a3 a4 a5 a6 a7 a8 a9 a10 el fa2 (A 4) held (A 3) (A 2) len lF lM lT ls op pile (A 1) (A 6) (A 0) st2 val (I s) (I t) p3 l4 l5 l6 n2 z0 z1) (I P) (I R) a1 a2 a3 a4 a5 a6 a7 a8 a9 a10 el fa2 (A 4) held (A 3) (A 2) len lF lM lT ls op pile (A 1) (A 6) (A 0) st2 val (I s) (I t) p3 l4 l5 l6 (I S) (I v) T = x9_book_219 k85 (I P) (I R) a1 a2 a3 a4 a5 a6 a8 a9 a10 el (A 4) held (A 3) (A 2) len lF lM lT ls op (A 1) (A 6) (A 0) val (I s) (I t) p3 a7 fa2 pile st2 l4 l5 l6 (I S') := by
        intro T hT
        have fin2 : ∀ W' : Int32, W' = I w → x9_book_186 k85 (fun z0 z1 => x9_book_110 k85 (I P) (I R) a1 a2 a3 a4 a5 a6 a7 a8 a9 a10 el fa2 (A 4) held (A 3) (A 2) len lF lM lT ls op pile (A 1) (A 6) (A 0) st2 val (I s) (I t) p3 l4 l5 l6 n2 z0 z1) (I P) (I R) a1 a2 a3 a4 a5 a6 a7 a8 a9 a10 el fa2 (A 4) held (A 3) (A 2) len lF lM lT ls op pile (A 1) (A 6) (A 0) st2 val (I s) (I t) p3 l4 l5 l6 (I S) (I v) (I c) W' = x9_book_219 k85 (I P) (I R) a1 a2 a3 a4 a5 a6 a8 a9 a10 el (A 4) held (A 3) (A 2) len lF lM lT ls op (A 1) (A 6) (A 0) val (I s) (I t) p3 a7 fa2 pile st2 l4 l5 l6 (I S') := by
          intro W' hW'
          rw [x9_book_186, hW']
          rcases ex2 with ⟨y1, y2⟩ | ⟨y1, y2⟩
          · rw [if_pos y1, y2, x9_book_210, I_add, I_succ]; exact z4
          · rw [if_neg y1, y2, x9_book_210, I_add, I_succ]; exact z4
        rw [x9_book_162, hT, er, Option.bind_some]
        rcases er2 with ⟨y1, y2⟩ | ⟨y1, y2⟩
        · rw [if_pos y1]; exact fin2 r y2
        · rw [if_neg y1]; exact fin2 1440 (by rw [y2]; rfl)
      rw [x9_book_110, if_neg g, e60, i360, bif_t, I_clamp (by omega)]
      rcases cc with ⟨y1, y2⟩ | ⟨y1, y2, y3⟩ | ⟨y1, y2, y3⟩
      · rw [if_neg y1]; exact fin 0 (by rw [y2]; rfl)
      · rw [if_pos y1, if_neg y2]; exact fin 1440 (by rw [y3]; rfl)
      · rw [if_pos y1, if_pos y2]; exact fin _ y3
end trip

/-! texts: behind an expression that isn't in brackets -/
section text
variable {f b : Nat} {tape : Nat → Int32} {asked : Bool} {lF lM lT ls : Nat → Int32} {o0 v0 : Nat → Int32}
theorem kGO_2 {n : Nat} {p1 l2 : Int32} {a cod wai opn brk : Int32} {op val wts : Nat → Int32} (hi : inB ((60 * p1) + l2) 300 = true) : kGO (I f) tape p1 n asked lF lM lT ls l2 (2, a, cod, wai, opn, brk, op, val, wts) = x9_takesText_63 (I f) tape p1 n a cod wai opn brk true lF (upd lM ((60 * p1) + l2).toNatClampNeg cod) lT ls op val wts l2 2 := by
  unfold kGO
  rw [if_neg (show ¬ ((2 : Int32) = 0) by decide), if_pos (show (2 : Int32) = 2 from rfl), hi, bif_t, x9_takesText_117, if_neg (show ¬ ((3 : Int32) ≤ 2) by decide)]
theorem kGO_3 {n : Nat} {p1 l2 : Int32} {a cod wai opn brk : Int32} {op val wts : Nat → Int32} (hi : inB ((60 * p1) + l2) 300 = true) (hp : inB p1 5 = true) : kGO (I f) tape p1 n asked lF lM lT ls l2 (3, a, cod, wai, opn, brk, op, val, wts) =
    if 60 ≤ l2 + 1 then x9_takesText_63 (I f) tape p1 n a cod wai opn brk false lF lM (upd lT ((60 * p1) + l2).toNatClampNeg cod) (upd ls p1.toNatClampNeg (l2 + 1)) op val wts (l2 + 1) 3
    else bif inB ((60 * p1) + l2 + 1) 300 then x9_takesText_63 (I f) tape p1 n a cod wai opn brk false (upd lF ((60 * p1) + l2 + 1).toNatClampNeg cod) (upd lM ((60 * p1) + l2 + 1).toNatClampNeg cod) (upd lT ((60 * p1) + l2).toNatClampNeg cod) (upd ls p1.toNatClampNeg (l2 + 1)) op val wts (l2 + 1) 3 else none := by
  unfold kGO
  rw [if_neg (show ¬ ((3 : Int32) = 0) by decide), if_neg (show ¬ ((3 : Int32) = 2) by decide), x9_takesText_117, if_pos (show (3 : Int32) ≤ 3 by decide), hi, hp, bif_t, bif_t, if_pos (show (3 : Int32) = 3 from rfl)]
  split
  · rfl
  · cases h : inB ((60 * p1) + l2 + 1) 300
    · rw [bif_f, bif_f]
    · rw [bif_t, bif_t, bif_t]; rfl
theorem kGO_4 {n : Nat} {p1 l2 : Int32} {a cod wai opn brk : Int32} {op val wts : Nat → Int32} (hi : inB ((60 * p1) + l2) 300 = true) (hp : inB p1 5 = true) : kGO (I f) tape p1 (n + 1) asked lF lM lT ls l2 (4, a, cod, wai, opn, brk, op, val, wts) =
    some (true, a, cod, wai, opn, brk, false, lF, lM, upd lT ((60 * p1) + l2).toNatClampNeg cod, upd ls p1.toNatClampNeg (l2 + 1), op, val, wts) := by
  unfold kGO
  rw [if_neg (show ¬ ((4 : Int32) = 0) by decide), if_neg (show ¬ ((4 : Int32) = 2) by decide), x9_takesText_117, if_pos (show (3 : Int32) ≤ 4 by decide), hi, hp, bif_t, bif_t, if_neg (show ¬ ((4 : Int32) = 3) by decide), x9_takesText_188, x9_takesText_63, if_pos (show (4 : Int32) ≤ 4 by decide)]
theorem app_nil_len (P : List Int32) : (P ++ []).length = P.length := by rw [List.append_nil]
/-- the turn behind an expression, up to what the sign means -/
theorem go130 (hf : f ≤ 120) (hb : b ≤ 480) {a : Nat} {K P : List Int32} {cod wai opn brk : Int32} {op val wts : Nat → Int32} (ha : a ≤ f) (hP : ∀ x, x ∈ P → 1 ≤ rk x) (hM : MS o0 v0 b a K (P ++ []) cod wai opn brk op val wts) :
    ∃ op' val', Cod o0 v0 op' val' b (K ++ P) ∧ K.length + P.length ≤ a ∧ x9_goesOn_130 (I f) asked tape (I a) cod wai opn brk op val wts = if a = f then some (4, I a, I (b + (K ++ P).length), I 0, I 0, I 0, op', val', wts) else if tk f tape a = 63 then some (2, I (a + 1), I (b + (K ++ P).length), I 0, I 0, I 0, op', val', wts) else some (3, I (a + 1), I (b + (K ++ P).length), I 0, I 0, I 0, op', val', wts) := by
  obtain ⟨h1, h2, h3, h4, h5, h6, h7, h8⟩ := hM
  rw [app_nil_len] at h7
  obtain ⟨op', val', e, q⟩ := goesD (r := 1) hb (by omega) (by omega) wts (W := []) (fun x V he => by cases he) P yN K op val (by unfold yN; rw [List.length_nil]; omega) (by rw [app_nil_len]; omega) h6 h5 hP (fun h => by omega)
  have e' : x9_goesDown (I (b + K.length)) (I (P ++ []).length) op val wts 1 = some (true, I (b + (K ++ P).length), I 0, op', val') := e
  have hoc : oc (P ++ []) = 0 := by rw [oc_app hP]; rfl
  have hbc : bc (P ++ []) = 0 := by rw [bc_app hP]; rfl
  refine ⟨op', val', q, h7, ?_⟩
  rw [x9_goesOn_130, h1, h2, h3, h4, e', Option.bind_some, hoc, hbc]
  by_cases hf1 : a = f
  · rw [if_pos (by rw [hf1]), if_pos hf1]
  · have htk : tk f tape a = tape a := by unfold tk; rw [if_pos (by omega)]
    rw [if_neg (by rw [I_eq (by omega) (by omega)]; exact hf1), if_neg hf1, I_succ, I_pred (by omega), Nat.add_sub_cancel, I_inB (by omega), decide_eq_true (by omega : a < 120), bif_t, I_clamp (by omega), htk]
theorem go18 (hf : f ≤ 120) {a n : Nat} {K P : List Int32} {cod wai opn brk : Int32} {op val wts : Nat → Int32} (ha : a ≤ f) (hP : ∀ x, x ∈ P → 1 ≤ rk x) (hM : MS o0 v0 b a K (P ++ []) cod wai opn brk op val wts) (hr : rk (tk f tape a) = 0) (h41 : tk f tape a ≠ 41) :
    x9_goesOn_0 (I f) asked tape wts (n + 1) (I a) cod wai opn brk op val = if tk f tape a = 63 ∧ asked = true then some (0, I a, cod, wai, opn, brk, op, val, wts) else if a < f ∧ tk f tape a ≠ 63 ∧ tk f tape a ≠ 59 then some (0, I a, cod, wai, opn, brk, op, val, wts) else x9_goesOn_130 (I f) asked tape (I a) cod wai opn brk op val wts := by
  obtain ⟨h1, h2, h3, h4, h5, h6, h7, h8⟩ := hM
  have hnx := x9nextI (f := f) (a := a) (tape := tape) hf ha
  have hbc : bc (P ++ []) = 0 := by rw [bc_app hP]; rfl
  have h99 : x9_goesOn_99 (I f) asked tape (I a) cod wai opn brk op val wts = if a < f ∧ tk f tape a ≠ 63 ∧ tk f tape a ≠ 59 then some (0, I a, cod, wai, opn, brk, op, val, wts) else x9_goesOn_130 (I f) asked tape (I a) cod wai opn brk op val wts := by
    unfold x9_goesOn_99
    by_cases hlt : a < f
    · rw [if_neg (by rw [I_le (by omega) (by omega)]; omega), hnx, Option.bind_some]
      by_cases q1 : tk f tape a = 63
      · rw [if_pos q1, if_neg (fun h => h.2.1 q1)]
      · rw [if_neg q1, Option.bind_some]
        by_cases q2 : tk f tape a = 59
        · rw [if_pos q2, if_neg (fun h => h.2.2 q2)]
        · rw [if_neg q2, if_pos ⟨hlt, q1, q2⟩]
    · rw [if_pos (by rw [I_le (by omega) (by omega)]; omega), if_neg (fun h => hlt h.1)]
  rw [x9_goesOn_0, hnx, Option.bind_some, if_neg h41, x9_goesOn_18, hnx, Option.bind_some, x9rank, Option.bind_some, hr, if_pos (by decide), if_neg (by rw [h4, hbc]; decide), Option.bind_some, h99]
  by_cases q1 : tk f tape a = 63
  · rw [if_pos q1]
    cases asked
    · rw [bif_f, if_neg (show ¬ (tk f tape a = 63 ∧ false = true) from fun h => by cases h.2)]
    · rw [bif_t, if_pos ⟨q1, rfl⟩]
  · rw [if_neg q1, if_neg (show ¬ (tk f tape a = 63 ∧ asked = true) from fun h => q1 h.1)]
/-- a comma of the text that may not stand -/
theorem GA_bad (hf : f ≤ 120) (hb : b ≤ 480) {p1 l2 : Int32} {Q : Option TT → Prop} {a : Nat} {K P : List Int32} (ha : a < f) (hP : ∀ x, x ∈ P → 1 ≤ rk x) (hN : Nx f tape 0 a P) (h59 : tk f tape a ≠ 59) (h63 : tk f tape a = 63 → asked = true)
    (h : QF b asked lF lM lT ls o0 v0 Q a) : GA f b tape p1 asked lF lM lT ls l2 o0 v0 Q a K (P ++ []) := by
  have hbc : bc (P ++ []) = 0 := by rw [bc_app hP]; rfl
  by_cases h41 : tk f tape a = 41
  · exact GA_closed hf (by omega) h41 hbc h
  · by_cases hr : 1 ≤ rk (tk f tape a)
    · obtain ⟨h1, P1, P2, h2, h3, h4⟩ := hN hr
      rw [h2, List.append_assoc]
      exact GA_no hf hb h1 h3 h4 h
    · intro n1 n2 cod wai opn brk op val wts hn1 hn2 hM
      obtain ⟨n, rfl⟩ : ∃ k, n1 = k + 1 := ⟨n1 - 1, by omega⟩
      have h5 := hM.2.2.2.2.1
      rw [go18 hf (by omega) hP hM (by omega) h41]
      by_cases q1 : tk f tape a = 63
      · rw [if_pos ⟨q1, h63 q1⟩, Option.bind_some, kGO_0]
        exact h _ _ _ _ _ _ _ h5.2
      · rw [if_neg (fun h => q1 h.1), if_pos ⟨ha, q1, h59⟩, Option.bind_some, kGO_0]
        exact h _ _ _ _ _ _ _ h5.2
theorem MS_nil {a : Nat} {K P : List Int32} {op val wts : Nat → Int32} (hC : Cod o0 v0 op val b (K ++ P)) (hl : K.length + P.length ≤ a) : MS o0 v0 b a (K ++ P) [] (I (b + (K ++ P).length)) (I 0) (I 0) (I 0) op val wts :=
  ⟨rfl, rfl, rfl, rfl, hC, trivial, by rw [List.length_append, List.length_nil]; omega, by show 0 ≤ 6; omega⟩
theorem line_I {q n : Nat} (hq : q ≤ 4) (hn : n < 60) : 60 * I q + I n = I (60 * q + n) ∧ inB (60 * I q + I n) 300 = true ∧ (60 * I q + I n).toNatClampNeg = 60 * q + n := by
  have e : 60 * I q + I n = I (60 * q + n) := by
    show I 60 * I q + I n = _
    rw [I_mul, I_add]
  rw [e]
  exact ⟨rfl, by rw [I_inB (by omega)]; exact decide_eq_true (by omega), I_clamp (by omega)⟩
/-- a question mark -/
theorem GA_ask (hf : f ≤ 120) (hb : b ≤ 480) {q n : Nat} (hq : q ≤ 4) (hn : n < 60) {Q : Option TT → Prop} {a : Nat} {K P : List Int32} (hP : ∀ x, x ∈ P → 1 ≤ rk x) (h63 : tk f tape a = 63)
    (h : GE f b tape (I q) true lF (upd lM (60 * q + n) (I (b + (K ++ P).length))) lT ls (I n) o0 v0 Q (a + 1) (K ++ P) []) : GA f b tape (I q) false lF lM lT ls (I n) o0 v0 Q a K (P ++ []) := by
  intro n1 n2 cod wai opn brk op val wts hn1 hn2 hM
  have ha : a < f := tk_lt (by rw [h63]; decide)
  obtain ⟨n1, rfl⟩ : ∃ k, n1 = k + 1 := ⟨n1 - 1, by omega⟩
  obtain ⟨n2, rfl⟩ : ∃ k, n2 = k + 1 := ⟨n2 - 1, by omega⟩
  obtain ⟨l1, l2, l3⟩ := line_I hq hn
  obtain ⟨op', val', hC, hl, e⟩ := go130 (asked := false) (tape := tape) hf hb (by omega) hP hM
  rw [go18 hf (by omega) hP hM (by rw [h63]; decide) (by rw [h63]; decide), if_neg (fun h => by cases h.2), if_neg (fun h => h.2.1 h63), e, if_neg (by omega), if_pos h63, Option.bind_some, kGO_2 l2, l3, tt63 _ _ _ _ _ _ _ _ _ _ _ _ _ _ _ _ _ _ _ (by decide)]
  exact h yN n2 _ _ _ _ _ _ _ (by unfold yN; omega) (by omega) (MS_nil hC (by omega))
/-- the end -/
theorem GA_end (hf : f ≤ 120) (hb : b ≤ 480) {q n : Nat} (hq : q ≤ 4) (hn : n < 60) {Q : Option TT → Prop} {a : Nat} {K P : List Int32} (hP : ∀ x, x ∈ P → 1 ≤ rk x) (ha : a = f)
    (h : ∀ wai opn brk op val wts, Cod o0 v0 op val b (K ++ P) → Q (some (true, I a, I (b + (K ++ P).length), wai, opn, brk, false, lF, lM, upd lT (60 * q + n) (I (b + (K ++ P).length)), upd ls q (I (n + 1)), op, val, wts))) : GA f b tape (I q) asked lF lM lT ls (I n) o0 v0 Q a K (P ++ []) := by
  intro n1 n2 cod wai opn brk op val wts hn1 hn2 hM
  have htk : tk f tape a = -1 := by unfold tk; rw [if_neg (by omega)]
  obtain ⟨n1, rfl⟩ : ∃ k, n1 = k + 1 := ⟨n1 - 1, by omega⟩
  obtain ⟨n2, rfl⟩ : ∃ k, n2 = k + 1 := ⟨n2 - 1, by omega⟩
  obtain ⟨l1, l2, l3⟩ := line_I hq hn
  have hp : inB (I q) 5 = true := by rw [I_inB (by omega)]; exact decide_eq_true (by omega)
  obtain ⟨op', val', hC, hl, e⟩ := go130 (asked := asked) (tape := tape) hf hb (by omega) hP hM
  rw [go18 hf (by omega) hP hM (by rw [htk]; decide) (by rw [htk]; decide), if_neg (fun h => by rw [htk] at h; exact absurd h.1 (by decide)), if_neg (fun h => by omega), e, if_pos ha, Option.bind_some, kGO_4 l2 hp, l3, I_succ, I_clamp (by omega)]
  exact h _ _ _ _ _ _ hC
/-- a line ends -/
theorem GA_line (hf : f ≤ 120) (hb : b ≤ 480) {q n : Nat} (hq : q ≤ 4) (hn : n < 60) {Q : Option TT → Prop} {a : Nat} {K P : List Int32} (hP : ∀ x, x ∈ P → 1 ≤ rk x) (h59 : tk f tape a = 59)
    (h : ∀ lF' lM', (n + 1 < 60 → lF' = upd lF (60 * q + (n + 1)) (I (b + (K ++ P).length)) ∧ lM' = upd lM (60 * q + (n + 1)) (I (b + (K ++ P).length))) → (¬ n + 1 < 60 → lF' = lF ∧ lM' = lM) → GE f b tape (I q) false lF' lM' (upd lT (60 * q + n) (I (b + (K ++ P).length))) (upd ls q (I (n + 1))) (I (n + 1)) o0 v0 Q (a + 1) (K ++ P) []) : GA f b tape (I q) asked lF lM lT ls (I n) o0 v0 Q a K (P ++ []) := by
  intro n1 n2 cod wai opn brk op val wts hn1 hn2 hM
  have ha : a < f := tk_lt (by rw [h59]; decide)
  obtain ⟨n1, rfl⟩ : ∃ k, n1 = k + 1 := ⟨n1 - 1, by omega⟩
  obtain ⟨n2, rfl⟩ : ∃ k, n2 = k + 1 := ⟨n2 - 1, by omega⟩
  obtain ⟨l1, l2, l3⟩ := line_I hq hn
  have hp : inB (I q) 5 = true := by rw [I_inB (by omega)]; exact decide_eq_true (by omega)
  obtain ⟨op', val', hC, hl, e⟩ := go130 (asked := asked) (tape := tape) hf hb (by omega) hP hM
  rw [go18 hf (by omega) hP hM (by rw [h59]; decide) (by rw [h59]; decide), if_neg (fun h => by rw [h59] at h; exact absurd h.1 (by decide)), if_neg (fun h => h.2.2 h59), e, if_neg (by omega), if_neg (by rw [h59]; decide), Option.bind_some, kGO_3 l2 hp, l3, I_succ, I_clamp (by omega)]
  by_cases h60 : n + 1 < 60
  · have e1 : 60 * I q + I n + 1 = I (60 * q + (n + 1)) := by rw [l1, I_succ]; rfl
    rw [if_neg (by show ¬ (I 60 ≤ I _); rw [I_le (by omega) (by omega)]; omega), e1, I_inB (by omega), decide_eq_true (by omega : 60 * q + (n + 1) < 300), bif_t, I_clamp (by omega), tt63 _ _ _ _ _ _ _ _ _ _ _ _ _ _ _ _ _ _ _ (by decide)]
    exact h _ _ (fun _ => ⟨rfl, rfl⟩) (fun h => absurd h60 h) yN n2 _ _ _ _ _ _ _ (by unfold yN; omega) (by omega) (MS_nil hC (by omega))
  · rw [if_pos (by show I 60 ≤ I _; rw [I_le (by omega) (by omega)]; omega), tt63 _ _ _ _ _ _ _ _ _ _ _ _ _ _ _ _ _ _ _ (by decide)]
    exact h _ _ (fun h => absurd h h60) (fun _ => ⟨rfl, rfl⟩) yN n2 _ _ _ _ _ _ _ (by unfold yN; omega) (by omega) (MS_nil hC (by omega))
end text

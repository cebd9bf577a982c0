/-! texts: the reference's walk as two turns, ahead of an operand and behind it -/
abbrev TT := Bool × Int32 × Int32 × Int32 × Int32 × Int32 × Bool × (Nat → Int32) × (Nat → Int32) × (Nat → Int32) × (Nat → Int32) × (Nat → Int32) × (Nat → Int32) × (Nat → Int32)
def kGO (v_fed : Int32) (v_tape : Nat → Int32) (p1 : Int32) (n : Nat) (v_asked : Bool) (v_lineFrom v_lineMid v_lineTo v_lines : Nat → Int32) (l2 : Int32) : (Int32 × Int32 × Int32 × Int32 × Int32 × Int32 × (Nat → Int32) × (Nat → Int32) × (Nat → Int32)) → Option TT :=
  fun o2 => if o2.1 = 0 then (some (false, o2.2.1, o2.2.2.1, o2.2.2.2.1, o2.2.2.2.2.1, o2.2.2.2.2.2.1, v_asked, v_lineFrom, v_lineMid, v_lineTo, v_lines, o2.2.2.2.2.2.2.1, o2.2.2.2.2.2.2.2.1, o2.2.2.2.2.2.2.2.2)) else (if o2.1 = 2 then (bif inB ((60 * p1) + l2) 300 then (x9_takesText_117 (fun z0 z1 z2 z3 z4 z5 z6 z7 z8 z9 z10 z11 z12 z13 z14 => x9_takesText_63 v_fed v_tape p1 n z0 z1 z2 z3 z4 z5 z6 z7 z8 z9 z10 z11 z12 z13 z14) v_fed v_tape p1 o2.2.1 o2.2.2.1 o2.2.2.2.1 o2.2.2.2.2.1 o2.2.2.2.2.2.1 true v_lineFrom (upd v_lineMid ((60 * p1) + l2).toNatClampNeg o2.2.2.1) v_lineTo v_lines o2.2.2.2.2.2.2.1 o2.2.2.2.2.2.2.2.1 o2.2.2.2.2.2.2.2.2 l2 o2.1 ((60 * p1) + l2)) else none) else (x9_takesText_117 (fun z0 z1 z2 z3 z4 z5 z6 z7 z8 z9 z10 z11 z12 z13 z14 => x9_takesText_63 v_fed v_tape p1 n z0 z1 z2 z3 z4 z5 z6 z7 z8 z9 z10 z11 z12 z13 z14) v_fed v_tape p1 o2.2.1 o2.2.2.1 o2.2.2.2.1 o2.2.2.2.2.1 o2.2.2.2.2.2.1 v_asked v_lineFrom v_lineMid v_lineTo v_lines o2.2.2.2.2.2.2.1 o2.2.2.2.2.2.2.2.1 o2.2.2.2.2.2.2.2.2 l2 o2.1 ((60 * p1) + l2)))
def kTO (v_fed : Int32) (v_tape : Nat → Int32) (p1 : Int32) (n : Nat) (v_asked : Bool) (v_lineFrom v_lineMid v_lineTo v_lines : Nat → Int32) (l2 : Int32) : (Bool × Int32 × Int32 × Int32 × Int32 × Int32 × (Nat → Int32) × (Nat → Int32) × (Nat → Int32)) → Option TT :=
  fun o1 => bif o1.1 then ((x9_goesOn v_fed o1.2.1 o1.2.2.1 o1.2.2.2.1 o1.2.2.2.2.1 o1.2.2.2.2.2.1 v_asked o1.2.2.2.2.2.2.1 v_tape o1.2.2.2.2.2.2.2.1 o1.2.2.2.2.2.2.2.2).bind (kGO v_fed v_tape p1 n v_asked v_lineFrom v_lineMid v_lineTo v_lines l2)) else (some (false, o1.2.1, o1.2.2.1, o1.2.2.2.1, o1.2.2.2.2.1, o1.2.2.2.2.2.1, v_asked, v_lineFrom, v_lineMid, v_lineTo, v_lines, o1.2.2.2.2.2.2.1, o1.2.2.2.2.2.2.2.1, o1.2.2.2.2.2.2.2.2))
theorem tt63 (f : Int32) (tape : Nat → Int32) (p1 : Int32) (n : Nat) (a cod wai opn brk : Int32) (asked : Bool) (lF lM lT ls op val wts : Nat → Int32) (l2 l3 : Int32) (h : ¬ (4 ≤ l3)) :
    x9_takesText_63 f tape p1 (n + 1) a cod wai opn brk asked lF lM lT ls op val wts l2 l3 = (x9_takesOperand_0 f cod op tape val yN a wai opn brk wts).bind (kTO f tape p1 n asked lF lM lT ls l2) := by
  rw [x9_takesText_63, if_neg h]; rfl
/-- the reference's rows ahead of position a: code K, what waits W -/
def MS (o0 v0 : Nat → Int32) (b a : Nat) (K W : List Int32) (cod wai opn brk : Int32) (op val wts : Nat → Int32) : Prop :=
  cod = I (b + K.length) ∧ wai = I W.length ∧ opn = I (oc W) ∧ brk = I (bc W) ∧ Cod o0 v0 op val b K ∧ Stk wts W ∧ K.length + W.length ≤ a ∧ oc W ≤ 6
section text
variable {f b : Nat} {tape : Nat → Int32} {p1 : Int32} {asked : Bool} {lF lM lT ls : Nat → Int32} {l2 : Int32} {o0 v0 : Nat → Int32}
/-- from the turn ahead of an operand it goes on to Q -/
def GE (f b : Nat) (tape : Nat → Int32) (p1 : Int32) (asked : Bool) (lF lM lT ls : Nat → Int32) (l2 : Int32) (o0 v0 : Nat → Int32) (Q : Option TT → Prop) (a : Nat) (K W : List Int32) : Prop :=
  ∀ n1 n2 cod wai opn brk op val wts, 200 ≤ n1 + a → 200 ≤ n2 + a → MS o0 v0 b a K W cod wai opn brk op val wts →
    Q ((x9_takesOperand_0 (I f) cod op tape val n1 (I a) wai opn brk wts).bind (kTO (I f) tape p1 n2 asked lF lM lT ls l2))
/-- from the turn behind an operand it goes on to Q -/
def GA (f b : Nat) (tape : Nat → Int32) (p1 : Int32) (asked : Bool) (lF lM lT ls : Nat → Int32) (l2 : Int32) (o0 v0 : Nat → Int32) (Q : Option TT → Prop) (a : Nat) (K W : List Int32) : Prop :=
  ∀ n1 n2 cod wai opn brk op val wts, 200 ≤ n1 + a → 200 ≤ n2 + a → MS o0 v0 b a K W cod wai opn brk op val wts →
    Q ((x9_goesOn_0 (I f) asked tape wts n1 (I a) cod wai opn brk op val).bind (kGO (I f) tape p1 n2 asked lF lM lT ls l2))
def QF (b : Nat) (asked : Bool) (lF lM lT ls o0 v0 : Nat → Int32) (Q : Option TT → Prop) (a : Nat) : Prop := ∀ cod wai opn brk op val wts, Fr o0 v0 op val b → Q (some (false, I a, cod, wai, opn, brk, asked, lF, lM, lT, ls, op, val, wts))
theorem kGO_0 {n : Nat} {a cod wai opn brk : Int32} {op val wts : Nat → Int32} : kGO (I f) tape p1 n asked lF lM lT ls l2 (0, a, cod, wai, opn, brk, op, val, wts) = some (false, a, cod, wai, opn, brk, asked, lF, lM, lT, ls, op, val, wts) := by
  unfold kGO; rw [if_pos rfl]
theorem kGO_1 {n : Nat} {a cod wai opn brk : Int32} {op val wts : Nat → Int32} : kGO (I f) tape p1 n asked lF lM lT ls l2 (1, a, cod, wai, opn, brk, op, val, wts) = x9_takesText_63 (I f) tape p1 n a cod wai opn brk asked lF lM lT ls op val wts l2 1 := by
  unfold kGO
  rw [if_neg (show ¬ ((1 : Int32) = 0) by decide), if_neg (show ¬ ((1 : Int32) = 2) by decide), x9_takesText_117, if_neg (show ¬ ((3 : Int32) ≤ 1) by decide)]
theorem kTO_f {n : Nat} {a cod wai opn brk : Int32} {op val wts : Nat → Int32} : kTO (I f) tape p1 n asked lF lM lT ls l2 (false, a, cod, wai, opn, brk, op, val, wts) = some (false, a, cod, wai, opn, brk, asked, lF, lM, lT, ls, op, val, wts) := by
  unfold kTO; rw [bif_f]
theorem kTO_t {n : Nat} {a cod wai opn brk : Int32} {op val wts : Nat → Int32} : kTO (I f) tape p1 n asked lF lM lT ls l2 (true, a, cod, wai, opn, brk, op, val, wts) = (x9_goesOn_0 (I f) asked tape wts yN a cod wai opn brk op val).bind (kGO (I f) tape p1 n asked lF lM lT ls l2) := by
  unfold kTO; rw [bif_t]; rfl
/-- a sign that waits is laid by -/
theorem GE_push (hf : f ≤ 120) {Q : Option TT → Prop} {a : Nat} {K W : List Int32} {c u : Int32} (ha : a < f) (ht : tk f tape a = c) (hc : c = 40 ∧ u = 40 ∨ c = 33 ∧ u = 33 ∨ c = 45 ∧ u = 110) (ho : oc W < 6)
    (h : GE f b tape p1 asked lF lM lT ls l2 o0 v0 Q (a + 1) K (u :: W)) : GE f b tape p1 asked lF lM lT ls l2 o0 v0 Q a K W := by
  intro n1 n2 cod wai opn brk op val wts hn1 hn2 ⟨h1, h2, h3, h4, h5, h6, h7, h8⟩
  obtain ⟨n, rfl⟩ : ∃ k, n1 = k + 1 := ⟨n1 - 1, by omega⟩
  have hnx := x9nextI (f := f) (a := a) (tape := tape) hf (by omega)
  rw [ht] at hnx
  have hW : W.length < 121 := by omega
  have hi : inB (I W.length) 121 = true := by rw [I_inB (by omega)]; exact decide_eq_true hW
  have ho6 : ¬ (opn = 6) := by rw [h3]; show ¬ (I (oc W) = I 6); rw [I_eq (by omega) (by omega)]; omega
  have hru : rk u = 0 := by rcases hc with ⟨_, h⟩ | ⟨_, h⟩ | ⟨_, h⟩ <;> rw [h] <;> decide
  have key : ∀ bk, bk = I (bc (u :: W)) → Q ((x9_takesOperand_97 (fun z0 z1 z2 z3 z4 => x9_takesOperand_0 (I f) cod op tape val n z0 z1 z2 z3 z4) (I f) cod op tape val (I a) (I W.length) (I (oc W) + 1) bk wts (I W.length) u).bind (kTO (I f) tape p1 n2 asked lF lM lT ls l2)) := by
    intro bk hbk
    rw [x9_takesOperand_97, hi, bif_t, I_clamp (by omega), I_succ, I_succ, I_succ]
    refine h n n2 cod _ _ bk op val _ (by omega) (by omega) ⟨h1, rfl, ?_, hbk, h5, h6.push, by rw [List.length_cons]; omega, ?_⟩
    · show I (oc W + 1) = I ((if rk u = 0 then 1 else 0) + oc W)
      rw [if_pos hru, Nat.add_comm]
    · show (if rk u = 0 then 1 else 0) + oc W ≤ 6
      rw [if_pos hru]; omega
  rw [x9_takesOperand_0, hnx, Option.bind_some, h2, h3, h4]
  rw [h3] at ho6
  rcases hc with ⟨hc, hu⟩ | ⟨hc, hu⟩ | ⟨hc, hu⟩
  · rw [if_pos hc, x9_takesOperand_27, if_neg ho6, hnx, Option.bind_some, if_pos hc, x9_takesOperand_67, hnx, Option.bind_some, if_neg (by rw [hc]; decide), Option.bind_some, I_succ (bc W), hc, ← hu]
    exact key _ (by show I (bc W + 1) = I ((if u = 40 then 1 else 0) + bc W); rw [if_pos hu, Nat.add_comm])
  · rw [if_neg (by rw [hc]; decide), Option.bind_some, if_pos hc, x9_takesOperand_27, if_neg ho6, hnx, Option.bind_some, if_neg (by rw [hc]; decide), x9_takesOperand_67, hnx, Option.bind_some, if_neg (by rw [hc]; decide), Option.bind_some, hc, ← hu]
    exact key _ (by show I (bc W) + 0 = I ((if u = 40 then 1 else 0) + bc W); rw [if_neg (by rw [hu]; decide), Int32.add_zero, Nat.zero_add])
  · rw [if_neg (by rw [hc]; decide), Option.bind_some, if_neg (by rw [hc]; decide), Option.bind_some, if_pos hc, x9_takesOperand_27, if_neg ho6, hnx, Option.bind_some, if_neg (by rw [hc]; decide), x9_takesOperand_67, hnx, Option.bind_some, if_pos hc, ← hu]
    exact key _ (by show I (bc W) + 0 = I ((if u = 40 then 1 else 0) + bc W); rw [if_neg (by rw [hu]; decide), Int32.add_zero, Nat.zero_add])
/-- too many are open -/
theorem GE_full (hf : f ≤ 120) {Q : Option TT → Prop} {a : Nat} {K W : List Int32} (ha : a ≤ f) (ht : tk f tape a = 40 ∨ tk f tape a = 33 ∨ tk f tape a = 45) (ho : oc W = 6)
    (h : QF b asked lF lM lT ls o0 v0 Q a) : GE f b tape p1 asked lF lM lT ls l2 o0 v0 Q a K W := by
  intro n1 n2 cod wai opn brk op val wts hn1 hn2 ⟨h1, h2, h3, h4, h5, h6, h7, h8⟩
  obtain ⟨n, rfl⟩ : ∃ k, n1 = k + 1 := ⟨n1 - 1, by omega⟩
  have hnx := x9nextI (f := f) (a := a) (tape := tape) hf ha
  have ho6 : opn = 6 := by rw [h3, ho]; rfl
  rw [x9_takesOperand_0, hnx, Option.bind_some]
  by_cases q1 : tk f tape a = 40
  · rw [if_pos q1, x9_takesOperand_27, if_pos ho6, Option.bind_some, kTO_f]; exact h _ _ _ _ _ _ _ h5.2
  · rw [if_neg q1, Option.bind_some]
    by_cases q2 : tk f tape a = 33
    · rw [if_pos q2, x9_takesOperand_27, if_pos ho6, Option.bind_some, kTO_f]; exact h _ _ _ _ _ _ _ h5.2
    · rw [if_neg q2, Option.bind_some]
      have q3 : tk f tape a = 45 := by
        rcases ht with h | h | h
        · exact absurd h q1
        · exact absurd h q2
        · exact h
      rw [if_pos q3, x9_takesOperand_27, if_pos ho6, Option.bind_some, kTO_f]; exact h _ _ _ _ _ _ _ h5.2
def dg (c : Int32) : Bool := if c < 48 then false else if 57 < c then false else true
theorem x4dig (c : Int32) : x4_isDigit c = some (dg c) := by
  unfold x4_isDigit dg
  split
  · rfl
  · split <;> rfl
theorem x9dig (c : Int32) : x9_isDigit c = some (dg c) := by
  unfold x9_isDigit x9_within dg
  split
  · rfl
  · split <;> rfl
theorem dg_I {c : Int32} (h : dg c = true) : ∃ m, 48 ≤ m ∧ m ≤ 57 ∧ c = I m := by
  unfold dg at h
  split at h
  · cases h
  · split at h
    · cases h
    · rename_i h1 h2
      obtain ⟨m, a1, a2, a3⟩ := In_of (v := c) (a := 48) (b := 57) (by omega) (by omega) h1 h2
      exact ⟨m, a1, a2, a3⟩
/-- neither a number nor a name begins here -/
theorem GE_none (hf : f ≤ 120) {Q : Option TT → Prop} {a : Nat} {K W : List Int32} (ha : a ≤ f) (q1 : tk f tape a ≠ 40) (q2 : tk f tape a ≠ 33) (q3 : tk f tape a ≠ 45) (hd : dg (tk f tape a) = false) {v : Int32} (hv : x9_nameOf (tk f tape a) = some v) (hv0 : v < 0)
    (h : QF b asked lF lM lT ls o0 v0 Q a) : GE f b tape p1 asked lF lM lT ls l2 o0 v0 Q a K W := by
  intro n1 n2 cod wai opn brk op val wts hn1 hn2 ⟨h1, h2, h3, h4, h5, h6, h7, h8⟩
  obtain ⟨n, rfl⟩ : ∃ k, n1 = k + 1 := ⟨n1 - 1, by omega⟩
  have hnx := x9nextI (f := f) (a := a) (tape := tape) hf ha
  rw [x9_takesOperand_0, hnx, Option.bind_some, if_neg q1, Option.bind_some, if_neg q2, Option.bind_some, if_neg q3, x9_takesOperand_121, hnx, Option.bind_some, x9dig, Option.bind_some, hd, bif_f, Option.bind_some, hv, Option.bind_some, if_neg (by rw [Int32.not_le]; exact hv0), Option.bind_some, kTO_f]
  exact h _ _ _ _ _ _ _ h5.2
/-- a name -/
theorem GE_name (hf : f ≤ 120) (hb : b ≤ 480) {Q : Option TT → Prop} {a : Nat} {K W : List Int32} (ha : a < f) (q1 : tk f tape a ≠ 40) (q2 : tk f tape a ≠ 33) (q3 : tk f tape a ≠ 45) (hd : dg (tk f tape a) = false) {v : Nat} (hv : x9_nameOf (tk f tape a) = some (I v)) (hv9 : v ≤ 9)
    (h : GA f b tape p1 asked lF lM lT ls l2 o0 v0 Q (a + 1) (K ++ I v :: uns W) (strp W)) : GE f b tape p1 asked lF lM lT ls l2 o0 v0 Q a K W := by
  intro n1 n2 cod wai opn brk op val wts hn1 hn2 ⟨h1, h2, h3, h4, h5, h6, h7, h8⟩
  obtain ⟨n, rfl⟩ : ∃ k, n1 = k + 1 := ⟨n1 - 1, by omega⟩
  have hnx := x9nextI (f := f) (a := a) (tape := tape) hf (by omega)
  have hv0 : (0 : Int32) ≤ I v := by show I 0 ≤ I v; rw [I_le (by omega) (by omega)]; omega
  have e1 : (1 : Int32) = opOf (I v) := by
    unfold opOf
    rw [if_neg (by show ¬ (I 1000 ≤ I v); rw [I_le (by omega) (by omega)]; omega), if_pos (by show I v < I 10; rw [I_lt (by omega) (by omega)]; omega)]
  have e2 : I v = vaOf (I v) := by
    unfold vaOf
    rw [if_neg (by show ¬ (I 1000 ≤ I v); rw [I_le (by omega) (by omega)]; omega), if_pos (by show I v < I 10; rw [I_lt (by omega) (by omega)]; omega)]
  obtain ⟨op', val', e, q⟩ := endsOp hb wts W yN (K ++ [I v]) (upd op (b + K.length) 1) (upd val (b + K.length) (I v)) (by unfold yN; omega) (by rw [List.length_append, List.length_singleton]; omega) h6 (h5.snoc (by omega) e1 e2)
  rw [List.append_assoc, List.singleton_append] at e q
  have e' : x9_endsOperand (I (b + K.length + 1)) (I W.length) (I (oc W)) (upd op (b + K.length) 1) (upd val (b + K.length) (I v)) wts = some (I (b + (K ++ I v :: uns W).length), I (strp W).length, I (oc (strp W)), op', val') := by
    rw [← e, List.length_append, List.length_singleton]; rfl
  rw [x9_takesOperand_0, hnx, Option.bind_some, if_neg q1, Option.bind_some, if_neg q2, Option.bind_some, if_neg q3, x9_takesOperand_121, hnx, Option.bind_some, x9dig, Option.bind_some, hd, bif_f, Option.bind_some, hv, Option.bind_some, if_pos hv0, Option.bind_some, hv, Option.bind_some, h1, lay_I (by omega), Option.bind_some, h2, h3, e', Option.bind_some, Option.bind_some, I_succ, kTO_t]
  have hl := strp_len W
  have hso : oc (strp W) ≤ oc W := by
    have : ∀ V : List Int32, oc (strp V) ≤ oc V := by
      intro V
      induction V with
      | nil => exact Nat.le_refl _
      | cons x V ih =>
        unfold strp
        split
        · show oc (strp V) ≤ (if rk x = 0 then 1 else 0) + oc V; omega
        · exact Nat.le_refl _
    exact this W
  exact h yN n2 _ _ _ brk op' val' wts (by unfold yN; omega) (by omega) ⟨rfl, rfl, rfl, by rw [h4, strp_bc], q, h6.strp_, by rw [List.length_append, List.length_cons]; omega, by omega⟩
end text

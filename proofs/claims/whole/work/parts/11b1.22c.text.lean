/-! texts: numbers, and the turns behind an operand -/
def rdn (f : Nat) (tape : Nat → Int32) : Nat → Nat → Nat → Nat × Nat
  | 0, a, v => (a, v)
  | k + 1, a, v => if dg (tk f tape a) = true then rdn f tape k (a + 1) (10 * v + ((tk f tape a).toNatClampNeg - 48)) else (a, v)
theorem dg_lt {f a : Nat} {tape : Nat → Int32} (h : dg (tk f tape a) = true) : a < f := by
  by_cases h1 : a < f
  · exact h1
  · unfold tk at h; rw [if_neg h1] at h; exact absurd h (by decide)
theorem dg_step {v m : Nat} (h1 : 48 ≤ m) : (10 * I v + I m) - 48 = I (10 * v + (m - 48)) := by
  show (I 10 * I v + I m) - I 48 = _
  rw [I_mul, I_add, I_sub (by omega)]; congr 1; omega
theorem numM {f : Nat} {tape : Nat → Int32} (hf : f ≤ 120) (cod : Int32) (op val : Nat → Int32) : ∀ k n a i v, i + k = 4 → k < n → v < 10 ^ i → a ≤ f →
    x9_takesNumber_4 (I f) cod op tape val n (I a) (I i) (I v) = ((x9_lay cod op val 0 (I (rdn f tape k a v).2)).bind fun o1 => some (I (rdn f tape k a v).1, o1.1, o1.2.1, o1.2.2)) ∧ (rdn f tape k a v).2 ≤ 9999 ∧ a ≤ (rdn f tape k a v).1 ∧ (rdn f tape k a v).1 ≤ f := by
  intro k
  induction k with
  | zero =>
    intro n a i v hi hn hv ha
    obtain ⟨n, rfl⟩ : ∃ k, n = k + 1 := ⟨n - 1, by omega⟩
    have h4 : i = 4 := by omega
    subst h4
    refine ⟨?_, by show v ≤ 9999; omega, Nat.le_refl _, ha⟩
    rw [x9_takesNumber_4, if_pos (by decide)]; rfl
  | succ k ih =>
    intro n a i v hi hn hv ha
    obtain ⟨n, rfl⟩ : ∃ k, n = k + 1 := ⟨n - 1, by omega⟩
    have hi3 : i ≤ 3 := by omega
    have hv3 : 10 ^ i ≤ 10 ^ 3 := Nat.pow_le_pow_right (by omega) hi3
    have h10 : 10 ^ (i + 1) = 10 ^ i * 10 := Nat.pow_succ ..
    rw [x9_takesNumber_4, if_neg (by show ¬ (I 4 ≤ I i); rw [I_le (by omega) (by omega)]; omega), x9nextI hf ha, Option.bind_some, x9dig, Option.bind_some]
    unfold rdn
    by_cases hd : dg (tk f tape a) = true
    · obtain ⟨m, m1, m2, m3⟩ := dg_I hd
      have hlt := dg_lt hd
      rw [hd, bif_t, if_pos rfl, Option.bind_some, m3, dg_step m1, I_succ, I_succ, I_clamp (by omega)]
      obtain ⟨e, q1, q2, q3⟩ := ih n (a + 1) (i + 1) (10 * v + (m - 48)) (by omega) (by omega) (by omega) (by omega)
      exact ⟨e, q1, by omega, q3⟩
    · have hd' : dg (tk f tape a) = false := by simpa using hd
      rw [hd', bif_f, if_neg (by decide)]
      exact ⟨rfl, by show v ≤ 9999; omega, Nat.le_refl _, ha⟩
theorem numC {f : Nat} {tape : Nat → Int32} (hf : f ≤ 120) (size : Int32) (uw : Bool) (steps : Nat → Int32) : ∀ k n a i v, i + k = 4 → k < n → v < 10 ^ i → a ≤ f →
    x4_readNumber_4 (I f) (-1) tape size uw steps n (I a) (I v) (I i) = ((x6_add size uw steps (1000 + I (rdn f tape k a v).2)).bind fun o1 => some (I (rdn f tape k a v).1, o1.1, o1.2.1, o1.2.2)) := by
  intro k
  induction k with
  | zero =>
    intro n a i v hi hn hv ha
    obtain ⟨n, rfl⟩ : ∃ k, n = k + 1 := ⟨n - 1, by omega⟩
    have h4 : i = 4 := by omega
    subst h4
    rw [x4_readNumber_4, if_pos (by decide)]; rfl
  | succ k ih =>
    intro n a i v hi hn hv ha
    obtain ⟨n, rfl⟩ : ∃ k, n = k + 1 := ⟨n - 1, by omega⟩
    have hi3 : i ≤ 3 := by omega
    have hv3 : 10 ^ i ≤ 10 ^ 3 := Nat.pow_le_pow_right (by omega) hi3
    have h10 : 10 ^ (i + 1) = 10 ^ i * 10 := Nat.pow_succ ..
    rw [x4_readNumber_4, if_neg (by show ¬ (I 4 ≤ I i); rw [I_le (by omega) (by omega)]; omega), x4nextI hf ha, Option.bind_some, x4dig, Option.bind_some]
    unfold rdn
    by_cases hd : dg (tk f tape a) = true
    · obtain ⟨m, m1, m2, m3⟩ := dg_I hd
      have hlt := dg_lt hd
      rw [hd, bif_t, if_pos rfl, Option.bind_some, m3, dg_step m1, I_succ, I_succ, I_clamp (by omega)]
      exact ih n (a + 1) (i + 1) (10 * v + (m - 48)) (by omega) (by omega) (by omega) (by omega)
    · have hd' : dg (tk f tape a) = false := by simpa using hd
      rw [hd', bif_f, if_neg (by decide)]
      rfl
theorem oc_strp (V : List Int32) : oc (strp V) ≤ oc V := by
  induction V with
  | nil => exact Nat.le_refl _
  | cons x V ih =>
    unfold strp
    split
    · show oc (strp V) ≤ (if rk x = 0 then 1 else 0) + oc V; omega
    · exact Nat.le_refl _
section text
variable {f b : Nat} {tape : Nat → Int32} {p1 : Int32} {asked : Bool} {lF lM lT ls : Nat → Int32} {l2 : Int32} {o0 v0 : Nat → Int32}
/-- a number -/
theorem GE_num (hf : f ≤ 120) (hb : b ≤ 480) {Q : Option TT → Prop} {a : Nat} {K W : List Int32} (hd : dg (tk f tape a) = true)
    (h : GA f b tape p1 asked lF lM lT ls l2 o0 v0 Q (rdn f tape 4 a 0).1 (K ++ I (1000 + (rdn f tape 4 a 0).2) :: uns W) (strp W)) : GE f b tape p1 asked lF lM lT ls l2 o0 v0 Q a K W := by
  intro n1 n2 cod wai opn brk op val wts hn1 hn2 ⟨h1, h2, h3, h4, h5, h6, h7, h8⟩
  have ha := dg_lt hd
  obtain ⟨n, rfl⟩ : ∃ k, n1 = k + 1 := ⟨n1 - 1, by omega⟩
  have hnx := x9nextI (f := f) (a := a) (tape := tape) hf (by omega)
  obtain ⟨m, m1, m2, m3⟩ := dg_I hd
  have ne : ∀ k, k < 2147483648 → m ≠ k → ¬ (tk f tape a = I k) := by
    intro k hk hm; rw [m3, I_eq (by omega) hk]; exact hm
  obtain ⟨e0, r1, r2, r3⟩ := numM (tape := tape) hf (I (b + K.length)) op val 4 yN a 0 0 (by omega) (by unfold yN; omega) (by omega) (by omega)
  have hgt : a < (rdn f tape 4 a 0).1 := by
    have := (numM (tape := tape) hf (I (b + K.length)) op val 3 yN (a + 1) 1 (10 * 0 + ((tk f tape a).toNatClampNeg - 48)) (by omega) (by unfold yN; omega) (by rw [m3, I_clamp (by omega)]; omega) (by omega)).2.2.1
    have hrd : rdn f tape 4 a 0 = rdn f tape 3 (a + 1) (10 * 0 + ((tk f tape a).toNatClampNeg - 48)) := by rw [rdn, if_pos hd]
    rw [hrd]; omega
  generalize hr : rdn f tape 4 a 0 = r at *
  obtain ⟨a', v⟩ := r
  simp only at e0 r1 r2 r3 hgt h
  have e1 : (0 : Int32) = opOf (I (1000 + v)) := by
    unfold opOf
    rw [if_pos (by show I 1000 ≤ I (1000 + v); rw [I_le (by omega) (by omega)]; omega)]
  have e2 : I v = vaOf (I (1000 + v)) := by
    unfold vaOf
    rw [if_pos (by show I 1000 ≤ I (1000 + v); rw [I_le (by omega) (by omega)]; omega)]
    show I v = I (1000 + v) - I 1000
    rw [I_sub (by omega), Nat.add_sub_cancel_left]
  obtain ⟨op', val', e, q⟩ := endsOp hb wts W yN (K ++ [I (1000 + v)]) (upd op (b + K.length) 0) (upd val (b + K.length) (I v)) (by unfold yN; omega) (by rw [List.length_append, List.length_singleton]; omega) h6 (h5.snoc (by omega) e1 e2)
  rw [List.append_assoc, List.singleton_append] at e q
  have e' : x9_endsOperand (I (b + K.length + 1)) (I W.length) (I (oc W)) (upd op (b + K.length) 0) (upd val (b + K.length) (I v)) wts = some (I (b + (K ++ I (1000 + v) :: uns W).length), I (strp W).length, I (oc (strp W)), op', val') := by
    rw [← e, List.length_append, List.length_singleton]; rfl
  have e0' : x9_takesNumber (I f) (I a) (I (b + K.length)) op tape val = some (I a', I (b + K.length + 1), upd op (b + K.length) 0, upd val (b + K.length) (I v)) := by
    rw [lay_I (by omega), Option.bind_some] at e0
    exact e0
  rw [x9_takesOperand_0, hnx, Option.bind_some, if_neg (show ¬ (tk f tape a = 40) from ne 40 (by omega) (by omega)), Option.bind_some, if_neg (show ¬ (tk f tape a = 33) from ne 33 (by omega) (by omega)), Option.bind_some, if_neg (show ¬ (tk f tape a = 45) from ne 45 (by omega) (by omega)), x9_takesOperand_121, hnx, Option.bind_some, x9dig, Option.bind_some, hd, bif_t, h1, e0', Option.bind_some, h2, h3, e', Option.bind_some, Option.bind_some, kTO_t]
  have hl := strp_len W
  have hso := oc_strp W
  exact h yN n2 _ _ _ brk op' val' wts (by unfold yN; omega) (by omega) ⟨rfl, rfl, rfl, by rw [h4, strp_bc], q, h6.strp_, by rw [List.length_append, List.length_cons]; omega, by omega⟩
/-- a bracket closes -/
theorem GA_close (hf : f ≤ 120) (hb : b ≤ 480) {Q : Option TT → Prop} {a : Nat} {K P W : List Int32} (ht : tk f tape a = 41) (hP : ∀ x, x ∈ P → 1 ≤ rk x)
    (h : GA f b tape p1 asked lF lM lT ls l2 o0 v0 Q (a + 1) (K ++ P ++ uns W) (strp W)) : GA f b tape p1 asked lF lM lT ls l2 o0 v0 Q a K (P ++ 40 :: W) := by
  intro n1 n2 cod wai opn brk op val wts hn1 hn2 ⟨h1, h2, h3, h4, h5, h6, h7, h8⟩
  have ha : a < f := by
    by_cases h1 : a < f
    · exact h1
    · unfold tk at ht; rw [if_neg h1] at ht; exact absurd ht (by decide)
  obtain ⟨n, rfl⟩ : ∃ k, n1 = k + 1 := ⟨n1 - 1, by omega⟩
  have hnx := x9nextI (f := f) (a := a) (tape := tape) hf (by omega)
  have hlen : (P ++ 40 :: W).length = P.length + (W.length + 1) := by rw [List.length_append, List.length_cons]
  rw [hlen] at h7
  have hoc : oc (P ++ 40 :: W) = 1 + oc W := by
    rw [oc_app hP]; show (if rk 40 = 0 then 1 else 0) + oc W = _; rw [if_pos (by decide)]
  have hbc : bc (P ++ 40 :: W) = 1 + bc W := by
    rw [bc_app hP]; show (if (40 : Int32) = 40 then 1 else 0) + bc W = _; rw [if_pos rfl]
  have hbl := bc_le W
  obtain ⟨op1, val1, e1, q1⟩ := goesD (r := 1) hb (by omega) (by omega) wts (W := 40 :: W) (fun x V he => by injection he with e1 e2; rw [← e1]; decide) P yN K op val (by rw [List.length_cons]; unfold yN; omega) (by rw [hlen]; omega) h6 h5 hP (fun h => by omega)
  obtain ⟨op', val', e, q⟩ := endsOp hb wts W yN (K ++ P) op1 val1 (by unfold yN; omega) (by rw [List.length_append]; omega) h6.drop.2 q1
  have e1' : x9_goesDown (I (b + K.length)) (I (P ++ 40 :: W).length) op val wts 1 = some (true, I (b + (K ++ P).length), I (W.length + 1), op1, val1) := e1
  have e' : x9_endsOperand (I (b + (K ++ P).length)) (I W.length) (I (oc W)) op1 val1 wts = some (I (b + (K ++ P ++ uns W).length), I (strp W).length, I (oc (strp W)), op', val') := e
  have hb0 : ¬ (I (bc (P ++ 40 :: W)) = 0) := by show ¬ (I _ = I 0); rw [I_eq (by omega) (by omega)]; omega
  rw [x9_goesOn_0, hnx, Option.bind_some, if_pos ht, h1, h2, h3, h4, x9_closes, if_neg hb0, e1', Option.bind_some, I_pred (n := W.length + 1) (by omega), hoc, I_pred (n := 1 + oc W) (by omega), Nat.add_sub_cancel, show 1 + oc W - 1 = oc W by omega, e', Option.bind_some, Option.bind_some, bif_t, I_succ, hbc, I_pred (by omega), show 1 + bc W - 1 = bc (strp W) by rw [strp_bc]; omega]
  have hl := strp_len W
  have hso := oc_strp W
  exact h n n2 _ _ _ _ op' val' wts (by omega) (by omega) ⟨rfl, rfl, rfl, rfl, q, h6.drop.2.strp_, by rw [List.length_append, List.length_append]; omega, by omega⟩
theorem op_no41 {c : Int32} (h : 1 ≤ rk c) : c ≠ 41 := by
  intro h1; rw [h1] at h; exact absurd h (by decide)
/-- an operator -/
theorem GA_op (hf : f ≤ 120) (hb : b ≤ 480) {Q : Option TT → Prop} {a : Nat} {K P W : List Int32} (hr : 1 ≤ rk (tk f tape a)) (hP : ∀ x, x ∈ P → rk (tk f tape a) ≤ rk x) (h3' : rk (tk f tape a) = 3 → ∀ x, x ∈ P → rk x ≠ 3) (hW : ∀ x V, W = x :: V → rk x < rk (tk f tape a))
    (h : GE f b tape p1 asked lF lM lT ls l2 o0 v0 Q (a + 1) (K ++ P) (tk f tape a :: W)) : GA f b tape p1 asked lF lM lT ls l2 o0 v0 Q a K (P ++ W) := by
  intro n1 n2 cod wai opn brk op val wts hn1 hn2 ⟨h1, h2, h3, h4, h5, h6, h7, h8⟩
  have ha : a < f := by
    by_cases h1 : a < f
    · exact h1
    · unfold tk at hr; rw [if_neg h1] at hr; exact absurd hr (by decide)
  obtain ⟨n, rfl⟩ : ∃ k, n1 = k + 1 := ⟨n1 - 1, by omega⟩
  obtain ⟨n2, rfl⟩ : ∃ k, n2 = k + 1 := ⟨n2 - 1, by omega⟩
  have hnx := x9nextI (f := f) (a := a) (tape := tape) hf (by omega)
  have hr5 := rk_le (tk f tape a)
  rw [List.length_append] at h7
  have hP1 : ∀ x, x ∈ P → 1 ≤ rk x := fun x hx => Nat.le_trans hr (hP x hx)
  obtain ⟨op1, val1, e1, q1⟩ := goesD (r := rk (tk f tape a)) hb hr hr5 wts hW P yN K op val (by unfold yN; omega) (by rw [List.length_append]; omega) h6 h5 hP h3'
  have e1' : x9_goesDown (I (b + K.length)) (I (P ++ W).length) op val wts (I (rk (tk f tape a))) = some (true, I (b + (K ++ P).length), I W.length, op1, val1) := e1
  have hi : inB (I W.length) 121 = true := by rw [I_inB (by omega)]; exact decide_eq_true (by omega)
  rw [x9_goesOn_0, hnx, Option.bind_some, if_neg (op_no41 hr), x9_goesOn_18, hnx, Option.bind_some, x9rank, Option.bind_some, if_neg (by show ¬ (I _ ≤ I 0); rw [I_le (by omega) (by omega)]; omega), h1, h2, e1', Option.bind_some, bif_t, Option.bind_some, hi, bif_t, Option.bind_some, kGO_1, tt63 _ _ _ _ _ _ _ _ _ _ _ _ _ _ _ _ _ _ _ (by decide), I_succ, I_succ, I_clamp (by omega)]
  have ho : oc (tk f tape a :: W) = oc (P ++ W) := by
    rw [oc_app hP1]; show (if rk _ = 0 then 1 else 0) + oc W = _; rw [if_neg (by omega)]; omega
  have hbk : bc (tk f tape a :: W) = bc (P ++ W) := by
    rw [bc_app hP1]; show (if _ = (40 : Int32) then 1 else 0) + bc W = _
    rw [if_neg (by intro h; rw [h] at hr; exact absurd hr (by decide))]; omega
  exact h yN n2 _ _ _ _ op1 val1 _ (by unfold yN; omega) (by omega) ⟨rfl, rfl, by rw [h3, ho], by rw [h4, hbk], q1, h6.drop.push, by rw [List.length_append, List.length_cons]; omega, by rw [ho]; exact h8⟩
/-- a comparison may not stand behind another one -/
theorem GA_no (hf : f ≤ 120) (hb : b ≤ 480) {Q : Option TT → Prop} {a : Nat} {K P W : List Int32} (hr : rk (tk f tape a) = 3) (hP : ∀ x, x ∈ P → 3 ≤ rk x) (h3' : ∃ x, x ∈ P ∧ rk x = 3)
    (h : QF b asked lF lM lT ls o0 v0 Q a) : GA f b tape p1 asked lF lM lT ls l2 o0 v0 Q a K (P ++ W) := by
  intro n1 n2 cod wai opn brk op val wts hn1 hn2 ⟨h1, h2, h3, h4, h5, h6, h7, h8⟩
  have ha : a < f := by
    by_cases h1 : a < f
    · exact h1
    · unfold tk at hr; rw [if_neg h1] at hr; exact absurd hr (by decide)
  obtain ⟨n, rfl⟩ : ∃ k, n1 = k + 1 := ⟨n1 - 1, by omega⟩
  have hnx := x9nextI (f := f) (a := a) (tape := tape) hf (by omega)
  rw [List.length_append] at h7
  obtain ⟨c, w, op1, val1, e1, qf⟩ := goesDno hb wts (W := W) P yN K op val (by unfold yN; omega) (by rw [List.length_append]; omega) h6 h5.2 hP h3'
  have e1' : x9_goesDown (I (b + K.length)) (I (P ++ W).length) op val wts (I 3) = some (false, c, w, op1, val1) := e1
  rw [x9_goesOn_0, hnx, Option.bind_some, if_neg (op_no41 (by omega)), x9_goesOn_18, hnx, Option.bind_some, x9rank, Option.bind_some, hr, if_neg (by decide), h1, h2, e1', Option.bind_some, bif_f, Option.bind_some, kGO_0]
  exact h _ _ _ _ _ _ _ qf
/-- inside of brackets nothing else may stand -/
theorem GA_open (hf : f ≤ 120) {Q : Option TT → Prop} {a : Nat} {K W : List Int32} (ha : a ≤ f) (hr : rk (tk f tape a) = 0) (h41 : tk f tape a ≠ 41) (hbc : 0 < bc W)
    (h : QF b asked lF lM lT ls o0 v0 Q a) : GA f b tape p1 asked lF lM lT ls l2 o0 v0 Q a K W := by
  intro n1 n2 cod wai opn brk op val wts hn1 hn2 ⟨h1, h2, h3, h4, h5, h6, h7, h8⟩
  obtain ⟨n, rfl⟩ : ∃ k, n1 = k + 1 := ⟨n1 - 1, by omega⟩
  have hnx := x9nextI (f := f) (a := a) (tape := tape) hf ha
  have hbl := bc_le W
  rw [x9_goesOn_0, hnx, Option.bind_some, if_neg h41, x9_goesOn_18, hnx, Option.bind_some, x9rank, Option.bind_some, hr, if_pos (by decide), if_pos (by rw [h4]; show I 0 < I _; rw [I_lt (by omega) (by omega)]; exact hbc), Option.bind_some, kGO_0]
  exact h _ _ _ _ _ _ _ h5.2
/-- a bracket that wasn't opened -/
theorem GA_closed (hf : f ≤ 120) {Q : Option TT → Prop} {a : Nat} {K W : List Int32} (ha : a ≤ f) (h41 : tk f tape a = 41) (hbc : bc W = 0)
    (h : QF b asked lF lM lT ls o0 v0 Q a) : GA f b tape p1 asked lF lM lT ls l2 o0 v0 Q a K W := by
  intro n1 n2 cod wai opn brk op val wts hn1 hn2 ⟨h1, h2, h3, h4, h5, h6, h7, h8⟩
  obtain ⟨n, rfl⟩ : ∃ k, n1 = k + 1 := ⟨n1 - 1, by omega⟩
  have hnx := x9nextI (f := f) (a := a) (tape := tape) hf ha
  rw [x9_goesOn_0, hnx, Option.bind_some, if_pos h41, x9_closes, if_pos (by rw [h4, hbc]; rfl), Option.bind_some, bif_f, Option.bind_some, kGO_0]
  exact h _ _ _ _ _ _ _ h5.2
end text

/-! texts: the class's lines, the whole text -/
theorem leadOn_any {s l : Nat} (hs : s ≤ 124) (hl : l ≤ 124) (steps : Nat → Int32) : ∃ steps', x6_leadOn (I s) steps (I l) = some steps' := by
  unfold x6_leadOn
  rw [if_neg (by show ¬ (I l < I 0); rw [I_lt (by omega) (by omega)]; omega)]
  by_cases h : s ≤ l
  · rw [if_pos (by rw [I_le (by omega) (by omega)]; exact h)]; exact ⟨_, rfl⟩
  · rw [if_neg (by rw [I_le (by omega) (by omega)]; exact h), I_inB (by omega), decide_eq_true (by omega : l < 124)]; exact ⟨_, rfl⟩
theorem leadOn_I {s l : Nat} (hs : s ≤ 124) (hl : l < s) (steps : Nat → Int32) : x6_leadOn (I s) steps (I l) = some (upd steps l (-(I s))) := by
  unfold x6_leadOn
  rw [if_neg (by show ¬ (I l < I 0); rw [I_lt (by omega) (by omega)]; omega), if_neg (by rw [I_le (by omega) (by omega)]; omega), I_inB (by omega), decide_eq_true (by omega : l < 124), I_clamp (by omega)]; rfl
theorem dpt_ne {c : List Int32} (h : dpt c 0 = some 1) : c ≠ [] := by
  intro e; rw [e] at h; exact absurd h (by decide)
section text
variable {f q : Nat} {tape : Nat → Int32}
theorem topnil : TopOk 0 [] := fun x V he => by cases he
theorem lineStep (hf : f ≤ 120) (hB : ∀ j, j < f → ∃ m, m ≤ 255 ∧ tape j = I m) (hq : q ≤ 4) {a s : Nat} {uw : Bool} {steps : Nat → Int32} {P : Prog} (hTx : TxS steps s P) (hs : s ≤ a) (ha : a ≤ f) (hP : 2 * P.length ≤ a) (huw : uw = has9 (KP P)) :
    ∃ a' fl' s' uw' steps', x4_readLine (I f) (I a) (-1) tape (I s) uw steps = some (I a', fl', I s', uw', steps') ∧ s' ≤ 124 ∧
      ((fl' = -1 ∧ ∃ x, Wf x ∧ a < a' ∧ a' ≤ f ∧ s' ≤ a' + 1 ∧ TxS steps' s' (P ++ [x]) ∧ uw' = has9 (KP (P ++ [x])) ∧ (∀ F M T S o0 v0 Q, GB f q tape o0 v0 F M T S Q a' (P ++ [x]) → GL f q tape o0 v0 F M T S Q a P)) ∨
       (∃ pos, pos ≤ f ∧ fl' = I pos ∧ ∀ F M T S o0 v0 Q, QFT q o0 v0 F M T S Q pos → GL f q tape o0 v0 F M T S Q a P)) := by
  obtain ⟨a1, fl1, s1, uw1, steps1, e1, hs1, out1⟩ := (bothJO hf hB 64).1 0 0 a s uw steps (by omega) (by omega) (by omega) ha hs
  have e1' : x4_readJoinedR 64 true (I f) (I a) (-1) tape (I s) uw steps 0 0 = some (I a1, fl1, I s1, uw1, steps1) := e1
  have hb : 120 * q ≤ 480 := by omega
  unfold x4_readLine
  rw [e1', Option.bind_some]
  rcases out1 with ⟨rfl, c, c1, pend, hC, hc, hp, hNx, hG⟩ | ⟨pos, hpos, rfl, hBd⟩
  · have hC' := hC
    obtain ⟨k1, k2, k3, k4, k5, k6, k7, k8⟩ := hC'
    have hP60 : P.length < 60 := by omega
    have hcd : dpt c 0 = some 1 := k8 0 (by unfold nd; omega)
    rw [show (I a1, (-1 : Int32), I s1, uw1, steps1).1 = I a1 from rfl, show (I a1, (-1 : Int32), I s1, uw1, steps1).2.1 = -1 from rfl, x4nextI hf k2, Option.bind_some]
    by_cases h63 : tk f tape a1 = 63
    · have ha1 : a1 < f := tk_lt (by rw [h63]; decide)
      rw [if_pos h63, x4_readLine_28, if_neg (show ¬ ((1 : Int32) = 0) by decide), show (I a1, (-1 : Int32), I s1, uw1, steps1).2.2.1 = I s1 from rfl, x6add_I (by omega), Option.bind_some, I_succ]
      obtain ⟨a2, fl2, s2, uw2, steps2, e2, hs2, out2⟩ := (bothJO hf hB 64).1 0 0 (a1 + 1) (s1 + 1) (uw1 || decide ((-1 : Int32) = 9)) (upd steps1 s1 (-1)) (by omega) (by omega) (by omega) (by omega) (by omega)
      have e2' : x4_readJoinedR 64 true (I f) (I (a1 + 1)) (-1) tape (I (s1 + 1)) (uw1 || decide ((-1 : Int32) = 9)) (upd steps1 s1 (-1)) 0 0 = some (I a2, fl2, I s2, uw2, steps2) := e2
      rw [e2', Option.bind_some, x4_readLine_57]
      have hask : ∀ {F M T S o0 v0 Q lF lM lT ls}, LSt q F M T S P lF lM lT ls → GE f (120 * q) tape (I q) true lF (upd lM (60 * q + P.length) (I (120 * q + (KP P ++ c1 ++ pend).length))) lT ls (I P.length) o0 v0 Q (a1 + 1) (KP P ++ c1 ++ pend) [] → GE f (120 * q) tape (I q) false lF lM lT ls (I P.length) o0 v0 Q a (KP P) [] := by
        intro F M T S o0 v0 Q lF lM lT ls hL hE
        exact hG (120 * q) (I q) false lF lM lT ls _ o0 v0 Q _ [] hb topnil rfl (GA_ask hf hb hq hP60 (fun x hx => hp x hx) h63 hE)
      rcases out2 with ⟨rfl, d, d1, pend2, hD, hd, hp2, hNx2, hG2⟩ | ⟨pos, hpos, rfl, hBd⟩
      · have hD' := hD
        obtain ⟨m1, m2, m3, m4, m5, m6, m7, m8⟩ := hD'
        rw [show (I a2, (-1 : Int32), I s2, uw2, steps2).2.2.1 = I s2 from rfl, x6add_I (by omega), Option.bind_some, if_neg (show ¬ ((1 : Int32) = 0) by decide), leadOn_I (by omega) (by omega), Option.bind_some]
        have hdd : dpt d 0 = some 1 := m8 0 (by unfold nd; omega)
        have hln : lnC s (c, d) = c ++ ([-(I (s + c.length + d.length + 2))] ++ (d ++ [59])) := by
          unfold lnC; rw [if_neg (dpt_ne hcd)]
        refine ⟨a2, -1, s2 + 1, (uw2 || decide ((59 : Int32) = 9)), upd (upd steps2 s2 59) s1 (-(I (s2 + 1))), rfl, by omega, Or.inl ⟨rfl, (c, d), ⟨Or.inr hcd, hdd⟩, by omega, m2, by omega, hTx.snoc (x := (c, d)) ?_ ?_ ?_, ?_, ?_⟩⟩
        · intro i hi
          unfold upd
          rw [if_neg (by omega), if_neg (by omega), m5 i (by omega)]
          unfold upd
          rw [if_neg (by omega)]; exact k5 i hi
        · rw [hln]
          refine HasT.app ?_ (HasT.app (HasT.one ?_) (HasT.app ?_ (HasT.one ?_)))
          · intro i x hx
            have hi := lt_of_get hx
            unfold upd
            rw [if_neg (by omega), if_neg (by omega), m5 (s + i) (by omega)]
            unfold upd
            rw [if_neg (by omega)]; exact k6 i x hx
          · unfold upd
            rw [if_pos (by omega)]; congr 2; omega
          · rw [List.length_singleton]
            intro i x hx
            have hi := lt_of_get hx
            unfold upd
            rw [if_neg (by omega), if_neg (by omega), show s + c.length + 1 + i = s1 + 1 + i by omega]
            exact m6 i x hx
          · rw [List.length_singleton]
            unfold upd
            rw [if_neg (by omega), if_pos (by omega)]
        · rw [hln, List.length_append, List.length_append, List.length_append, List.length_singleton, List.length_singleton]; omega
        · rw [KP_snoc, m7, k7, huw, has9_app, has9_app]
          show (((has9 (KP P) || has9 c) || decide ((-1 : Int32) = 9)) || has9 d || decide ((59 : Int32) = 9)) = _
          rw [show decide ((-1 : Int32) = 9) = false by decide, show decide ((59 : Int32) = 9) = false by decide, Bool.or_false, Bool.or_false]
        · intro F M T S o0 v0 Q hGB lF lM lT ls hL
          refine hask hL ?_
          refine hG2 (120 * q) (I q) true lF _ lT ls _ o0 v0 Q _ [] hb topnil rfl ?_
          have hl3 := hL.2.2 hP60
          refine GA_lineEnd hf hq hP60 m2 (fun x hx => hp2 x hx) hNx2 (fun _ => rfl) (x := (c, d)) ?_ (hL.1.upM hP60 _) ?_ hl3.1 ?_ hGB
          · show KP P ++ c1 ++ pend ++ d1 ++ pend2 = KP P ++ c ++ d
            rw [hc, hd]; simp only [List.append_assoc]
          · intro n x hx
            have hn := lt_of_get hx
            obtain ⟨b1, b2, b3⟩ := hL.2.1 n x hx
            refine ⟨b1, ?_, b3⟩
            unfold upd; rw [if_neg (by omega)]; exact b2
          · unfold upd; rw [if_pos rfl]
            show I (120 * q + (KP P ++ c1 ++ pend).length) = I (120 * q + (KP P).length + c.length)
            rw [hc, List.append_assoc, List.length_append]; congr 1; omega
      · obtain ⟨s3, uw3, steps3, e3, hs3⟩ := x6add_any hs2 uw2 steps2 59
        obtain ⟨steps4, e4⟩ := leadOn_any hs3 (l := s1) hs1 steps3
        rw [show (I a2, I pos, I s2, uw2, steps2).2.2.1 = I s2 from rfl, e3, Option.bind_some, if_neg (show ¬ ((1 : Int32) = 0) by decide), e4, Option.bind_some]
        refine ⟨a2, I pos, s3, _, _, rfl, hs3, Or.inr ⟨pos, hpos, rfl, ?_⟩⟩
        intro F M T S o0 v0 Q hQ lF lM lT ls hL
        exact hask hL (hBd (120 * q) (I q) true lF _ lT ls _ o0 v0 Q _ [] hb topnil rfl (hQ.qf (hL.1.upM hP60 _)))
    · rw [if_neg h63, x4_readLine_28, if_pos rfl, x4_readLine_57, show (I a1, (-1 : Int32), I s1, uw1, steps1).2.2.1 = I s1 from rfl, x6add_I (by omega), Option.bind_some, if_pos rfl]
      have hln : lnC s ([], c) = c ++ [59] := by unfold lnC; rw [if_pos rfl]
      refine ⟨a1, -1, s1 + 1, (uw1 || decide ((59 : Int32) = 9)), upd steps1 s1 59, rfl, by omega, Or.inl ⟨rfl, ([], c), ⟨Or.inl rfl, hcd⟩, k1, k2, by omega, hTx.snoc (x := ([], c)) ?_ ?_ ?_, ?_, ?_⟩⟩
      · intro i hi
        unfold upd; rw [if_neg (by omega)]; exact k5 i hi
      · rw [hln]
        refine HasT.app ?_ (HasT.one ?_)
        · intro i x hx
          have hi := lt_of_get hx
          unfold upd
          rw [if_neg (by omega)]; exact k6 i x hx
        · unfold upd
          rw [if_pos (by omega)]
      · rw [hln, List.length_append, List.length_singleton]; omega
      · rw [KP_snoc, k7, huw, has9_app, has9_app]
        show (has9 (KP P) || has9 c || decide ((59 : Int32) = 9)) = (has9 (KP P) || false || has9 c)
        rw [show decide ((59 : Int32) = 9) = false by decide, Bool.or_false, Bool.or_false]
      · intro F M T S o0 v0 Q hGB lF lM lT ls hL
        refine hG (120 * q) (I q) false lF lM lT ls _ o0 v0 Q _ [] hb topnil rfl ?_
        have hl3 := hL.2.2 hP60
        refine GA_lineEnd hf hq hP60 k2 (fun x hx => hp x hx) hNx (fun h => absurd h h63) (x := ([], c)) ?_ hL.1 hL.2.1 hl3.1 hl3.2 hGB
        show KP P ++ c1 ++ pend = KP P ++ [] ++ c
        rw [hc, List.append_nil, List.append_assoc]
  · rw [show (I a1, I pos, I s1, uw1, steps1).2.1 = I pos from rfl, x4nextD (pos_ne (by omega)), Option.bind_some, if_neg (show ¬ ((-1 : Int32) = 63) by decide), x4_readLine_28, if_pos rfl, x4_readLine_57]
    obtain ⟨s3, uw3, steps3, e3, hs3⟩ := x6add_any hs1 uw1 steps1 59
    rw [show (I a1, I pos, I s1, uw1, steps1).2.2.1 = I s1 from rfl, e3, Option.bind_some, if_pos rfl]
    refine ⟨a1, I pos, s3, _, _, rfl, hs3, Or.inr ⟨pos, hpos, rfl, ?_⟩⟩
    intro F M T S o0 v0 Q hQ lF lM lT ls hL
    exact hBd (120 * q) (I q) false lF lM lT ls _ o0 v0 Q _ [] hb topnil rfl (hQ.qf hL.1)
theorem textLoop (hf : f ≤ 120) (hB : ∀ j, j < f → ∃ m, m ≤ 255 ∧ tape j = I m) (hq : q ≤ 4) : ∀ m n a s uw steps (P : Prog) i, f - a ≤ m → m + 1 < n → TxS steps s P → s ≤ a + 1 → a ≤ f → 2 * P.length ≤ a + 1 → i < P.length → uw = has9 (KP P) → (∀ x, x ∈ P → Wf x) →
    ∃ at' fl' s' uw' steps', x4_read_44 (I f) tape n (I a) (-1) (I s) uw steps (I i) = some (fl', I f, at', fl', I s', uw', steps') ∧ s' ≤ 124 ∧
      ((fl' = -1 ∧ ∃ P' : Prog, TxS steps' s' P' ∧ uw' = has9 (KP P') ∧ (∀ x, x ∈ P' → Wf x) ∧ P'.length ≤ 60 ∧ s' ≤ 121 ∧ (∀ F M T S o0 v0 Q, QS q o0 v0 F M T S Q P' → GB f q tape o0 v0 F M T S Q a P)) ∨
       (∃ pos, pos ≤ f ∧ fl' = I pos ∧ ∀ F M T S o0 v0 Q, QFT q o0 v0 F M T S Q pos → GB f q tape o0 v0 F M T S Q a P)) := by
  intro m
  induction m with
  | zero =>
    intro n a s uw steps P i hm hn hTx hs ha hP hi huw hW
    obtain ⟨n, rfl⟩ : ∃ k, n = k + 1 := ⟨n - 1, by omega⟩
    have htk : tk f tape a = -1 := by unfold tk; rw [if_neg (by omega)]
    rw [x4_read_44, if_neg (by show ¬ (I 120 ≤ I i); rw [I_le (by omega) (by omega)]; omega), x4nextI hf ha, Option.bind_some, htk, if_neg (show ¬ ((-1 : Int32) = 59) by decide), x4_read_80, if_pos (by rw [I_le (by omega) (by omega)]; omega)]
    refine ⟨_, -1, s, uw, steps, rfl, by omega, Or.inl ⟨rfl, P, hTx, huw, hW, by omega, by omega, ?_⟩⟩
    intro F M T S o0 v0 Q hQ
    exact ⟨fun h => absurd h (by rw [htk]; decide), fun _ => hQ, fun h => by omega⟩
  | succ m ih =>
    intro n a s uw steps P i hm hn hTx hs ha hP hi huw hW
    obtain ⟨n, rfl⟩ : ∃ k, n = k + 1 := ⟨n - 1, by omega⟩
    rw [x4_read_44, if_neg (by show ¬ (I 120 ≤ I i); rw [I_le (by omega) (by omega)]; omega), x4nextI hf ha, Option.bind_some]
    by_cases h59 : tk f tape a = 59
    · have ha1 : a < f := tk_lt (by rw [h59]; decide)
      rw [if_pos h59, I_succ, I_succ]
      obtain ⟨a2, fl2, s2, uw2, steps2, e2, hs2, out⟩ := lineStep hf hB hq (a := a + 1) hTx (by omega) (by omega) (by omega) huw
      rw [e2, Option.bind_some]
      rcases out with ⟨rfl, x, hx, q1, q2, q3, q4, q5, q6⟩ | ⟨pos, hpos, rfl, hBd⟩
      · have hl : (P ++ [x]).length = P.length + 1 := by rw [List.length_append, List.length_singleton]
        obtain ⟨at', fl', s', uw', steps', e, hs', out⟩ := ih n a2 s2 uw2 steps2 (P ++ [x]) (i + 1) (by omega) (by omega) q4 q3 q2 (by omega) (by omega) q5 (by
          intro y hy
          rcases List.mem_append.mp hy with h | h
          · exact hW y h
          · rw [List.mem_singleton] at h; rw [h]; exact hx)
        refine ⟨at', fl', s', uw', steps', e, hs', ?_⟩
        rcases out with ⟨h1, P', h2, h3, h4, h5, h7, h6⟩ | ⟨pos, hpos, h1, h2⟩
        · refine Or.inl ⟨h1, P', h2, h3, h4, h5, h7, ?_⟩
          intro F M T S o0 v0 Q hQ
          exact ⟨fun _ => q6 F M T S o0 v0 Q (h6 F M T S o0 v0 Q hQ), fun h => by omega, fun _ h => absurd h59 h⟩
        · refine Or.inr ⟨pos, hpos, h1, ?_⟩
          intro F M T S o0 v0 Q hQ
          exact ⟨fun _ => q6 F M T S o0 v0 Q (h2 F M T S o0 v0 Q hQ), fun h => by omega, fun _ h => absurd h59 h⟩
      · obtain ⟨n, rfl⟩ : ∃ k, n = k + 1 := ⟨n - 1, by omega⟩
        have hfail : x4_fail (I a2) (I pos) = some (I pos) := by unfold x4_fail; rw [if_neg (pos_ne (by omega))]
        rw [show (I a2, I pos, I s2, uw2, steps2).2.1 = I pos from rfl, x4_read_44, if_neg (by show ¬ (I 120 ≤ I (i + 1)); rw [I_le (by omega) (by omega)]; omega), x4nextD (pos_ne (by omega)), Option.bind_some, if_neg (show ¬ ((-1 : Int32) = 59) by decide), x4_read_80, hfail, Option.bind_some]
        refine ⟨I a2, I pos, s2, uw2, steps2, by split <;> rfl, hs2, Or.inr ⟨pos, hpos, rfl, ?_⟩⟩
        intro F M T S o0 v0 Q hQ
        exact ⟨fun _ => hBd F M T S o0 v0 Q hQ, fun h => by omega, fun _ h => absurd h59 h⟩
    · rw [if_neg h59, x4_read_80]
      by_cases haf : f ≤ a
      · rw [if_pos (by rw [I_le (by omega) (by omega)]; omega)]
        refine ⟨_, -1, s, uw, steps, rfl, by omega, Or.inl ⟨rfl, P, hTx, huw, hW, by omega, by omega, ?_⟩⟩
        intro F M T S o0 v0 Q hQ
        exact ⟨fun h => absurd h h59, fun _ => hQ, fun h => by omega⟩
      · rw [if_neg (by rw [I_le (by omega) (by omega)]; omega), show x4_fail (I a) (-1) = some (I a) by unfold x4_fail; rw [if_pos rfl], Option.bind_some]
        refine ⟨_, I a, s, uw, steps, rfl, by omega, Or.inr ⟨a, ha, rfl, ?_⟩⟩
        intro F M T S o0 v0 Q hQ
        exact ⟨fun h => absurd h h59, fun h => by omega, fun _ _ => hQ⟩
/-- the class's text -/
def TxC (size : Int32) (uw : Bool) (steps : Nat → Int32) (P : Prog) : Prop := ∃ s, s ≤ 121 ∧ size = I s ∧ TxS steps s P ∧ uw = has9 (KP P) ∧ (∀ x, x ∈ P → Wf x) ∧ P.length ≤ 60
/-- the reference's text -/
def TxM (q : Nat) (op val lF lM lT ls : Nat → Int32) (P : Prog) : Prop := (∀ i x, (KP P)[i]? = some x → op (120 * q + i) = opOf x ∧ val (120 * q + i) = vaOf x) ∧ LnM q lF lM lT P ∧ ls q = I P.length
theorem m_text (hf : f ≤ 120) (hB : ∀ j, j < f → ∃ m, m ≤ 255 ∧ tape j = I m) (hq : q ≤ 4) (vl va vf sz : Int32) (uw0 : Bool) (steps0 : Nat → Int32) (at0 cod wai opn brk : Int32) (asked : Bool) (lF lM lT ls op val wts : Nat → Int32) :
    ∃ at' fl' s' uw' steps', x4_read vl va vf tape sz uw0 steps0 (I f) = some (fl', I f, at', fl', I s', uw', steps') ∧ s' ≤ 124 ∧
    ∃ g : Bool, ∃ p c1 c2 c3 c4 asked' lF' lM' lT' ls' op' val' wts', x9_takesText (I f) at0 cod wai opn brk asked lF lM lT ls op tape val wts (I q) = some (g, p, c1, c2, c3, c4, asked', lF', lM', lT', ls', op', val', wts') ∧ Fr op val op' val' (120 * q) ∧ LFr q lF lM lT ls lF' lM' lT' ls' ∧
      ((fl' = -1 ∧ g = true ∧ ∃ P : Prog, TxC (I s') uw' steps' P ∧ TxM q op' val' lF' lM' lT' ls' P) ∨ (∃ pos, pos ≤ f ∧ fl' = I pos ∧ g = false ∧ p = I pos)) := by
  have hmin : (if (120 : Int32) < I f then 120 else I f) = I f := by rw [if_neg (by show ¬ (I 120 < I f); rw [I_lt (by omega) (by omega)]; omega)]
  have hiq : (60 : Int32) * I q = I (60 * q) := I_mul 60 q
  have hiq2 : (120 : Int32) * I q = I (120 * q) := I_mul 120 q
  have hstart : ∀ Q : Option TT → Prop, GL f q tape op val lF lM lT ls Q 0 [] → Q (x9_takesText (I f) at0 cod wai opn brk asked lF lM lT ls op tape val wts (I q)) := by
    intro Q h
    unfold x9_takesText
    rw [hiq, hiq2, I_inB (by omega), decide_eq_true (by omega : 60 * q < 300), bif_t, bif_t, I_clamp (by omega), show yN = 99999 + 1 from rfl, tt63 _ _ _ _ _ _ _ _ _ _ _ _ _ _ _ _ _ _ _ (by decide)]
    refine h _ _ lT ls ⟨⟨?_, fun j _ => rfl⟩, ?_, ?_⟩ yN 99999 _ _ _ _ _ _ wts (by unfold yN; omega) (by omega) ⟨rfl, rfl, rfl, rfl, ⟨?_, fun j _ => ⟨rfl, rfl⟩⟩, trivial, Nat.zero_le _, Nat.zero_le _⟩
    · intro j hj; unfold upd; rw [if_neg (by omega), if_neg (by omega)]; exact ⟨rfl, rfl, rfl⟩
    · intro n x hx; rw [List.getElem?_nil] at hx; cases hx
    · intro _; unfold upd; exact ⟨if_pos rfl, if_pos rfl⟩
    · intro i x hx; have : (([] : List Int32))[i]? = some x := hx; rw [List.getElem?_nil] at this; cases this
  obtain ⟨a1, fl1, s1, uw1, steps1, e1, hs1, out1⟩ := lineStep (tape := tape) (q := q) hf hB hq (a := 0) (s := 0) (uw := false) (steps := steps0) (P := []) ⟨rfl, fun i x hx => by have : (([] : List Int32))[i]? = some x := hx; rw [List.getElem?_nil] at this; cases this⟩ (by omega) (by omega) (by rw [List.length_nil]; omega) rfl
  have e1' : x4_readLine (I f) 0 (-1) tape 0 false steps0 = some (I a1, fl1, I s1, uw1, steps1) := e1
  unfold x4_read
  rw [hmin, x6_clear, Option.bind_some, e1', Option.bind_some]
  have finish : ∀ (fl' : Int32) (uw' : Bool) (s' : Nat) (steps' : Nat → Int32), ((fl' = -1 ∧ ∃ P' : Prog, TxC (I s') uw' steps' P' ∧ (∀ F M T S o0 v0 Q, QS q o0 v0 F M T S Q P' → GL f q tape o0 v0 F M T S Q 0 [])) ∨ (∃ pos, pos ≤ f ∧ fl' = I pos ∧ ∀ F M T S o0 v0 Q, QFT q o0 v0 F M T S Q pos → GL f q tape o0 v0 F M T S Q 0 [])) →
      ∃ g : Bool, ∃ p c1 c2 c3 c4 asked' lF' lM' lT' ls' op' val' wts', x9_takesText (I f) at0 cod wai opn brk asked lF lM lT ls op tape val wts (I q) = some (g, p, c1, c2, c3, c4, asked', lF', lM', lT', ls', op', val', wts') ∧ Fr op val op' val' (120 * q) ∧ LFr q lF lM lT ls lF' lM' lT' ls' ∧
      ((fl' = -1 ∧ g = true ∧ ∃ P : Prog, TxC (I s') uw' steps' P ∧ TxM q op' val' lF' lM' lT' ls' P) ∨ (∃ pos, pos ≤ f ∧ fl' = I pos ∧ g = false ∧ p = I pos)) := by
    intro fl' uw' s' steps' h
    rcases h with ⟨h1, P', h2, h3⟩ | ⟨pos, hpos, h1, h2⟩
    · refine hstart (fun r => ∃ g : Bool, ∃ p c1 c2 c3 c4 asked' lF' lM' lT' ls' op' val' wts', r = some (g, p, c1, c2, c3, c4, asked', lF', lM', lT', ls', op', val', wts') ∧ Fr op val op' val' (120 * q) ∧ LFr q lF lM lT ls lF' lM' lT' ls' ∧ ((fl' = -1 ∧ g = true ∧ ∃ P : Prog, TxC (I s') uw' steps' P ∧ TxM q op' val' lF' lM' lT' ls' P) ∨ (∃ pos, pos ≤ f ∧ fl' = I pos ∧ g = false ∧ p = I pos))) (h3 _ _ _ _ _ _ _ ?_)
      intro a cod wai opn brk lF' lM' lT' ls' op' val' wts' hC hL hLn hls
      exact ⟨_, _, _, _, _, _, _, _, _, _, _, _, _, _, rfl, hC.2, hL, Or.inl ⟨h1, rfl, P', h2, hC.1, hLn, hls⟩⟩
    · refine hstart (fun r => ∃ g : Bool, ∃ p c1 c2 c3 c4 asked' lF' lM' lT' ls' op' val' wts', r = some (g, p, c1, c2, c3, c4, asked', lF', lM', lT', ls', op', val', wts') ∧ Fr op val op' val' (120 * q) ∧ LFr q lF lM lT ls lF' lM' lT' ls' ∧ ((fl' = -1 ∧ g = true ∧ ∃ P : Prog, TxC (I s') uw' steps' P ∧ TxM q op' val' lF' lM' lT' ls' P) ∨ (∃ pos, pos ≤ f ∧ fl' = I pos ∧ g = false ∧ p = I pos))) (h2 _ _ _ _ _ _ _ ?_)
      intro asked lF' lM' lT' ls' cod wai opn brk op' val' wts' hF hL
      exact ⟨_, _, _, _, _, _, _, _, _, _, _, _, _, _, rfl, hF, hL, Or.inr ⟨pos, hpos, h1, rfl, rfl⟩⟩
  rcases out1 with ⟨rfl, x, hx, q1, q2, q3, q4, q5, q6⟩ | ⟨pos, hpos, rfl, hBd⟩
  · obtain ⟨at', fl', s', uw', steps', e, hs', out⟩ := textLoop hf hB hq f yN a1 s1 uw1 steps1 ([] ++ [x]) 0 (by omega) (by unfold yN; omega) q4 q3 q2 (by show 2 * 1 ≤ a1 + 1; omega) (by show 0 < 1; omega) q5 (by
      intro y hy
      have : y ∈ [x] := hy
      rw [List.mem_singleton] at this; rw [this]; exact hx)
    refine ⟨at', fl', s', uw', steps', e, hs', finish fl' uw' s' steps' ?_⟩
    rcases out with ⟨h1, P', h2, h3, h4, h5, h7, h6⟩ | ⟨pos, hpos, h1, h2⟩
    · exact Or.inl ⟨h1, P', ⟨s', h7, rfl, h2, h3, h4, h5⟩, fun F M T S o0 v0 Q hQ => q6 F M T S o0 v0 Q (h6 F M T S o0 v0 Q hQ)⟩
    · exact Or.inr ⟨pos, hpos, h1, fun F M T S o0 v0 Q hQ => q6 F M T S o0 v0 Q (h2 F M T S o0 v0 Q hQ)⟩
  · have hfail : x4_fail (I a1) (I pos) = some (I pos) := by unfold x4_fail; rw [if_neg (pos_ne (by omega))]
    rw [show (I a1, I pos, I s1, uw1, steps1).2.1 = I pos from rfl, show yN = 99999 + 1 from rfl, x4_read_44, if_neg (by decide), x4nextD (pos_ne (by omega)), Option.bind_some, if_neg (show ¬ ((-1 : Int32) = 59) by decide), x4_read_80, hfail, Option.bind_some]
    exact ⟨I a1, I pos, s1, uw1, steps1, by split <;> rfl, hs1, finish (I pos) uw1 s1 steps1 (Or.inr ⟨pos, hpos, rfl, hBd⟩)⟩
end text

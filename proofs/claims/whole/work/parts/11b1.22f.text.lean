theorem stepO {f : Nat} {tape : Nat → Int32} (hf : f ≤ 120) (hB : ∀ j, j < f → ∃ m, m ≤ 255 ∧ tape j = I m) {d : Nat} (hJ : PJ f tape d) (hO : PO f tape d) : PO f tape (d + 1) := by
  intro o a s uw steps z ho hd ha hs
  obtain ⟨v, hv, hvc, e0⟩ := opStart hf hB ha d (I s) uw steps (I o) z
  rw [e0, x4_readOperand_20, x4dig, Option.bind_some]
  by_cases hdg : dg (tk f tape a) = true
  · -- a number
    have ha1 := dg_lt hdg
    obtain ⟨_, r1, r2, r3⟩ := numM (tape := tape) hf 0 (fun _ => 0) (fun _ => 0) 4 yN a 0 0 (by omega) (by unfold yN; omega) (by omega) ha
    obtain ⟨m, m1, m2, m3⟩ := dg_I hdg
    have hgt : a < (rdn f tape 4 a 0).1 := by
      have := (numM (tape := tape) hf 0 (fun _ => 0) (fun _ => 0) 3 yN (a + 1) 1 (10 * 0 + ((tk f tape a).toNatClampNeg - 48)) (by omega) (by unfold yN; omega) (by rw [m3, I_clamp (by omega)]; omega) (by omega)).2.2.1
      have hrd : rdn f tape 4 a 0 = rdn f tape 3 (a + 1) (10 * 0 + ((tk f tape a).toNatClampNeg - 48)) := by rw [rdn, if_pos hdg]
      rw [hrd]; omega
    have e1 := numC (tape := tape) hf (I s) uw steps 4 yN a 0 0 (by omega) (by unfold yN; omega) (by omega) ha
    have e2 : x4_readNumber (I f) (I a) (-1) tape (I s) uw steps = x4_readNumber_4 (I f) (-1) tape (I s) uw steps yN (I a) (I 0) (I 0) := rfl
    have e3 : (1000 : Int32) + I (rdn f tape 4 a 0).2 = I (1000 + (rdn f tape 4 a 0).2) := I_add 1000 _
    rw [hdg, bif_t, e2, e1, e3, x6add_I (by omega), Option.bind_some, Option.bind_some]
    refine ⟨_, -1, _, _, _, rfl, by omega, Or.inl ⟨rfl, [I (1000 + (rdn f tape 4 a 0).2)], CG.single hgt r3 (by unfold nd; omega) (Or.inl (by show I 1000 ≤ I _; rw [I_le (by omega) (by omega)]; omega)), ?_⟩⟩
    intro b p1 asked lF lM lT ls l2 o0 v0 Q K W hb hoc hGA
    refine GE_num hf hb hdg ?_
    rw [List.append_assoc, List.singleton_append] at hGA
    exact hGA
  · have hdf : dg (tk f tape a) = false := by simpa using hdg
    rw [hdf, bif_f]
    rcases hvc with hvm | ⟨k, hk, hvk⟩
    · -- no name
      subst hvm
      rw [if_pos (by decide)]
      have fail : ∀ (h : (tk f tape a ≠ 40 ∧ tk f tape a ≠ 33 ∧ tk f tape a ≠ 45) ∨ o = 6), ∃ a' fl' s' uw' steps', ((x4_fail (I a) (-1)).bind fun o9 => some (I a, o9, I s, uw, steps)) = some (I a', fl', I s', uw', steps') ∧ s' ≤ 124 ∧ OutO f tape o a s uw steps a' fl' s' uw' steps' := by
        intro h
        refine ⟨a, I a, s, uw, steps, ?_, by omega, Or.inr ⟨a, ha, rfl, ?_⟩⟩
        · unfold x4_fail; rw [if_pos rfl]; rfl
        · intro b p1 asked lF lM lT ls l2 o0 v0 Q K W hb hoc hQ
          by_cases q1 : tk f tape a = 40
          · rcases h with h | h
            · exact absurd q1 h.1
            · exact GE_full hf ha (Or.inl q1) (by omega) hQ
          · by_cases q2 : tk f tape a = 33
            · rcases h with h | h
              · exact absurd q2 h.2.1
              · exact GE_full hf ha (Or.inr (Or.inl q2)) (by omega) hQ
            · by_cases q3 : tk f tape a = 45
              · rcases h with h | h
                · exact absurd q3 h.2.2
                · exact GE_full hf ha (Or.inr (Or.inr q3)) (by omega) hQ
              · exact GE_none hf ha q1 q2 q3 hdf hv (by decide) hQ
      by_cases h6 : o = 6
      · rw [if_neg (by show ¬ (I o < I 6); rw [I_lt (by omega) (by omega)]; omega)]
        exact fail (Or.inr h6)
      · rw [if_pos (by show I o < I 6; rw [I_lt (by omega) (by omega)]; omega)]
        by_cases q1 : tk f tape a = 40
        · -- a bracket
          have ha1 : a < f := tk_lt (by rw [q1]; decide)
          rw [if_pos q1, I_succ, I_succ]
          obtain ⟨a2, fl2, s2, uw2, steps2, e, hs2, out⟩ := hJ 0 (o + 1) (a + 1) s uw steps (by omega) (by omega) (by omega) (by omega) (by omega)
          have e' : x4_readJoinedR d true (I f) (I (a + 1)) (-1) tape (I s) uw steps 0 (I (o + 1)) = some (I a2, fl2, I s2, uw2, steps2) := e
          rw [e', Option.bind_some]
          have hoc40 : ∀ W, oc W = o → oc (40 :: W) = o + 1 := by
            intro W h; show (if rk 40 = 0 then 1 else 0) + oc W = _; rw [if_pos (by decide)]; omega
          have htop : ∀ W, TopOk 0 (40 :: W) := by
            intro W x V he; injection he with e1 e2; rw [← e1]; exact ⟨by decide, by decide, by decide⟩
          rcases out with ⟨rfl, c, c1, pend, hC, hc, hp, hNx, hG⟩ | ⟨pos, hpos, rfl, hBd⟩
          · have hC' := hC
            obtain ⟨k1, k2, k3, k4, _⟩ := hC'
            rw [show (I a2, (-1 : Int32), I s2, uw2, steps2).1 = I a2 from rfl, show (I a2, (-1 : Int32), I s2, uw2, steps2).2.1 = -1 from rfl, x4nextI hf k2, Option.bind_some]
            by_cases h41 : tk f tape a2 = 41
            · have ha2 : a2 < f := tk_lt (by rw [h41]; decide)
              rw [if_pos h41, I_succ]
              refine ⟨a2 + 1, -1, s2, uw2, steps2, rfl, by omega, Or.inl ⟨rfl, c, hC.weaken (by omega) (by omega) (by omega) (by unfold nd; omega), ?_⟩⟩
              intro b p1 asked lF lM lT ls l2 o0 v0 Q K W hb hoc hGA
              refine GE_push hf ha1 q1 (Or.inl ⟨rfl, rfl⟩) (by omega) (hG b p1 asked lF lM lT ls l2 o0 v0 Q K _ hb (htop W) (hoc40 W hoc) (GA_close hf hb h41 hp ?_))
              rw [hc] at hGA
              rw [show K ++ c1 ++ pend ++ uns W = K ++ (c1 ++ pend) ++ uns W by simp only [List.append_assoc]]
              exact hGA
            · rw [if_neg h41]
              refine ⟨a2, I a2, s2, uw2, steps2, ?_, by omega, Or.inr ⟨a2, k2, rfl, ?_⟩⟩
              · unfold x4_fail; rw [if_pos rfl]; rfl
              · intro b p1 asked lF lM lT ls l2 o0 v0 Q K W hb hoc hQ
                refine GE_push hf ha1 q1 (Or.inl ⟨rfl, rfl⟩) (by omega) (hG b p1 asked lF lM lT ls l2 o0 v0 Q K _ hb (htop W) (hoc40 W hoc) ?_)
                by_cases hr : 1 ≤ rk (tk f tape a2)
                · obtain ⟨h1, P1, P2, h2, h3, h4⟩ := hNx hr
                  rw [h2, List.append_assoc]
                  exact GA_no hf hb h1 h3 h4 hQ
                · refine GA_open hf k2 (by omega) h41 ?_ hQ
                  rw [bc_app hp]
                  show 0 < (if (40 : Int32) = 40 then 1 else 0) + bc W
                  rw [if_pos rfl]; omega
          · rw [show (I a2, I pos, I s2, uw2, steps2).2.1 = I pos from rfl, x4nextD (pos_ne (by omega)), Option.bind_some, if_neg (by decide)]
            refine ⟨a2, I pos, s2, uw2, steps2, ?_, hs2, Or.inr ⟨pos, hpos, rfl, ?_⟩⟩
            · unfold x4_fail; rw [if_neg (pos_ne (by omega))]; rfl
            · intro b p1 asked lF lM lT ls l2 o0 v0 Q K W hb hoc hQ
              exact GE_push hf ha1 q1 (Or.inl ⟨rfl, rfl⟩) (by omega) (hBd b p1 asked lF lM lT ls l2 o0 v0 Q K _ hb (htop W) (hoc40 W hoc) hQ)
        · rw [if_neg q1]
          have un : ∀ (c u w : Int32) (hcu : c = 33 ∧ u = 33 ∧ w = 33 ∨ c = 45 ∧ u = 110 ∧ w = 126) (q2 : tk f tape a = c),
              ∃ a' fl' s' uw' steps', x4_readOperand_138 (x4_readJoinedR d) (I f) tape (I o) (I a) (-1) (I s) uw steps (tk f tape a) = some (I a', fl', I s', uw', steps') ∧ s' ≤ 124 ∧ OutO f tape o a s uw steps a' fl' s' uw' steps' := by
            intro c u w hcu q2
            have ha1 : a < f := tk_lt (by rcases hcu with ⟨h, _⟩ | ⟨h, _⟩ <;> rw [q2, h] <;> decide)
            obtain ⟨a2, fl2, s2, uw2, steps2, e, hs2, out⟩ := hO (o + 1) (a + 1) s uw steps 0 (by omega) (by omega) (by omega) (by omega)
            have hpush : ∀ {b p1 asked lF lM lT ls l2 o0 v0 Q K W}, oc W = o → GE f b tape p1 asked lF lM lT ls l2 o0 v0 Q (a + 1) K (u :: W) → GE f b tape p1 asked lF lM lT ls l2 o0 v0 Q a K W := by
              intro b p1 asked lF lM lT ls l2 o0 v0 Q K W hoc hE
              refine GE_push hf ha1 q2 ?_ (by omega) hE
              rcases hcu with ⟨h1, h2, _⟩ | ⟨h1, h2, _⟩
              · exact Or.inr (Or.inl ⟨h1, h2⟩)
              · exact Or.inr (Or.inr ⟨h1, h2⟩)
            have hu : rk u = 0 ∧ (u = 33 ∨ u = 110) ∧ (if u = 33 then (33 : Int32) else 126) = w := by
              rcases hcu with ⟨_, h2, h3⟩ | ⟨_, h2, h3⟩ <;> subst h2 <;> subst h3 <;> decide
            have hocu : ∀ W, oc W = o → oc (u :: W) = o + 1 := by
              intro W h; show (if rk u = 0 then 1 else 0) + oc W = _; rw [if_pos hu.1]; omega
            have hsu : ∀ W, strp (u :: W) = strp W ∧ uns (u :: W) = w :: uns W := by
              intro W
              constructor
              · show (if u = 33 ∨ u = 110 then strp W else u :: W) = _; rw [if_pos hu.2.1]
              · show (if u = 33 ∨ u = 110 then (if u = 33 then 33 else 126) :: uns W else []) = _; rw [if_pos hu.2.1, hu.2.2]
            have hadd : ∀ (g : Int32 × Bool × (Nat → Int32)), x6_add (I s2) uw2 steps2 w = some g → x4_readOperand_138 (x4_readJoinedR d) (I f) tape (I o) (I a) (-1) (I s) uw steps (tk f tape a) = some (I a2, fl2, g.1, g.2.1, g.2.2) := by
              intro g hg
              rw [x4_readOperand_138, I_succ, I_succ, e, Option.bind_some, q2]
              rcases hcu with ⟨h1, _, h3⟩ | ⟨h1, _, h3⟩
              · rw [h1, if_neg (by decide)]
                rw [h3] at hg
                rw [show (I a2, fl2, I s2, uw2, steps2).2.2.1 = I s2 from rfl, hg]; rfl
              · rw [h1, if_pos rfl]
                rw [h3] at hg
                rw [show (I a2, fl2, I s2, uw2, steps2).2.2.1 = I s2 from rfl, hg]; rfl
            rcases out with ⟨rfl, c2, hC, hG⟩ | ⟨pos, hpos, rfl, hBd⟩
            · have hC' := hC
              obtain ⟨k1, k2, k3, k4, k5, k6, k7, k8⟩ := hC'
              refine ⟨a2, -1, s2 + 1, _, _, hadd _ (x6add_I (by omega) uw2 steps2 w), by omega, Or.inl ⟨rfl, c2 ++ [w], hC.add (by omega) k2 (by omega) ?_, ?_⟩⟩
              · intro n hn
                rw [dpt_app, k8 n (by unfold nd at *; omega), Option.bind_some]
                have e1 : ¬ (1000 ≤ w ∨ (0 ≤ w ∧ w < 10)) := by
                  rcases hcu with ⟨_, _, h⟩ | ⟨_, _, h⟩ <;> subst h <;> decide
                have e2 : w = 126 ∨ w = 33 := by
                  rcases hcu with ⟨_, _, h⟩ | ⟨_, _, h⟩
                  · exact Or.inr h
                  · exact Or.inl h
                unfold dpt
                rw [if_neg e1, if_pos e2, if_pos (by omega)]; rfl
              · intro b p1 asked lF lM lT ls l2 o0 v0 Q K W hb hoc hGA
                refine hpush hoc (hG b p1 asked lF lM lT ls l2 o0 v0 Q K _ hb (hocu W hoc) ?_)
                rw [(hsu W).1, (hsu W).2]
                rw [show K ++ c2 ++ w :: uns W = K ++ (c2 ++ [w]) ++ uns W by simp only [List.append_assoc, List.singleton_append]]
                exact hGA
            · obtain ⟨s3, uw3, steps3, e3, hs3⟩ := x6add_any hs2 uw2 steps2 w
              refine ⟨a2, I pos, s3, uw3, steps3, hadd _ e3, hs3, Or.inr ⟨pos, hpos, rfl, ?_⟩⟩
              intro b p1 asked lF lM lT ls l2 o0 v0 Q K W hb hoc hQ
              exact hpush hoc (hBd b p1 asked lF lM lT ls l2 o0 v0 Q K _ hb (hocu W hoc) hQ)
          by_cases q2 : tk f tape a = 33
          · rw [if_pos q2]
            exact un 33 33 33 (Or.inl ⟨rfl, rfl, rfl⟩) q2
          · rw [if_neg q2]
            by_cases q3 : tk f tape a = 45
            · rw [if_pos q3]
              exact un 45 110 126 (Or.inr ⟨rfl, rfl, rfl⟩) q3
            · rw [if_neg q3]
              exact fail (Or.inl ⟨q1, q2, q3⟩)
    · -- a name
      subst hvk
      have hlt : a < f := tk_lt (by
        intro h
        rw [h, show x9_nameOf (-1) = some (-1) by decide] at hv
        injection hv with hv
        exact pos_ne (pos := k) (by omega) hv.symm)
      have hne : ∀ c : Int32, x9_nameOf c = some (-1) → tk f tape a ≠ c := by
        intro c hc h
        rw [h, hc] at hv
        injection hv with hv
        exact pos_ne (pos := k) (by omega) hv.symm
      rw [if_neg (by show ¬ (I k < I 0); rw [I_lt (by omega) (by omega)]; omega), x6add_I (by omega), Option.bind_some, I_succ]
      refine ⟨a + 1, -1, s + 1, _, _, rfl, by omega, Or.inl ⟨rfl, [I k], CG.single (by omega) (by omega) (by unfold nd; omega) (Or.inr ⟨by show I 0 ≤ I k; rw [I_le (by omega) (by omega)]; omega, by show I k < I 10; rw [I_lt (by omega) (by omega)]; omega⟩), ?_⟩⟩
      intro b p1 asked lF lM lT ls l2 o0 v0 Q K W hb hoc hGA
      refine GE_name hf hb hlt (hne 40 (by decide)) (hne 33 (by decide)) (hne 45 (by decide)) hdf hv hk ?_
      rw [List.append_assoc, List.singleton_append] at hGA
      exact hGA
theorem bothJO {f : Nat} {tape : Nat → Int32} (hf : f ≤ 120) (hB : ∀ j, j < f → ∃ m, m ≤ 255 ∧ tape j = I m) : ∀ d, PJ f tape d ∧ PO f tape d := by
  intro d
  induction d with
  | zero => exact ⟨fun L o a s uw steps _ _ hd => by omega, fun o a s uw steps z _ hd => by omega⟩
  | succ d ih => exact ⟨stepJ hf ih.1 ih.2, stepO hf hB ih.1 ih.2⟩

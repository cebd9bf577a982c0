/-! texts: the two walks are one -/
theorem topok_weak {L M : Nat} {W : List Int32} (h : TopOk L W) (hm : L ≤ M) : TopOk M W := by
  intro x V e
  have := h x V e
  exact ⟨by omega, this.2⟩
theorem tk_lt {f a : Nat} {tape : Nat → Int32} (h : tk f tape a ≠ -1) : a < f := by
  by_cases h1 : a < f
  · exact h1
  · exfalso; apply h; unfold tk; rw [if_neg h1]
theorem Jloop {f : Nat} {tape : Nat → Int32} (hf : f ≤ 120) {d L o : Nat} (hL : L ≤ 4) (ho : o ≤ 6) (hIH : PJ f tape d) (hd : (6 - (L + 1)) + (7 * (6 - o) + 1) ≤ d) {a s : Nat} {uw : Bool} {steps : Nat → Int32} (hs : s ≤ a) :
    ∀ m n a1 s1 uw1 steps1 c c1 pl p1 i, f - a1 ≤ m → m + 1 < n → CG f (5 - L + nd o) a s uw steps a1 s1 uw1 steps1 c → c = c1 ++ (p1 ++ pl) → (pl = [] ∧ i = 0 ∨ ∃ x, pl = [x] ∧ rk x = L + 1 ∧ 1 ≤ i ∧ (L = 2 → i = 1)) → (∀ x, x ∈ p1 → L + 2 ≤ rk x) → Nx f tape (L + 1) a1 p1 → GoOn f tape L o a a1 c1 (p1 ++ pl) → 2 * i + a < a1 →
      ∃ a' fl' s' uw' steps', x4_readJoined_34 (x4_readJoinedR d) (I f) tape (I L) (I o) (I (if L = 2 then 1 else 120)) n (I a1) (-1) (I s1) uw1 steps1 (I i) = some (I a', fl', I s', uw', steps') ∧ s' ≤ 124 ∧ OutJ f tape L o a s uw steps a' fl' s' uw' steps' := by
  intro m
  induction m with
  | zero =>
    intro n a1 s1 uw1 steps1 c c1 pl p1 i hm hn hC hc hpl hp1 hNx hG hi
    obtain ⟨n, rfl⟩ : ∃ k, n = k + 1 := ⟨n - 1, by omega⟩
    have hC' := hC
    obtain ⟨g1, g2, g3, g4, _⟩ := hC'
    have hT : ¬ (I (if L = 2 then 1 else 120) ≤ I i) ∨ I (if L = 2 then 1 else 120) ≤ I i := by
      by_cases h : I (if L = 2 then 1 else 120) ≤ I i
      · exact Or.inr h
      · exact Or.inl h
    have htk : tk f tape a1 = -1 := by unfold tk; rw [if_neg (by omega)]
    have hend : OutJ f tape L o a s uw steps a1 (-1) s1 uw1 steps1 := by
      refine Or.inl ⟨rfl, c, c1, p1 ++ pl, hC, hc, ?_, ?_, hG⟩
      · intro x hx
        rcases List.mem_append.mp hx with h | h
        · have := hp1 x h; omega
        · rcases hpl with ⟨h1, _⟩ | ⟨y, h1, h2, _⟩
          · rw [h1] at h; cases h
          · rw [h1, List.mem_singleton] at h; rw [h]; omega
      · intro h; rw [htk] at h; exact absurd h (by rw [rk_un (Or.inr (Or.inr (Or.inr (Or.inr (Or.inl rfl)))))]; omega)
    refine ⟨a1, -1, s1, uw1, steps1, ?_, by omega, hend⟩
    rw [x4_readJoined_34]
    rcases hT with h | h
    · rw [if_neg h, x4nextI hf (by omega), Option.bind_some, x4level, Option.bind_some, if_neg (by rw [lv_eq (by omega), htk, rk_un (Or.inr (Or.inr (Or.inr (Or.inr (Or.inl rfl)))))]; omega)]
    · rw [if_pos h]
  | succ m ih =>
    intro n a1 s1 uw1 steps1 c c1 pl p1 i hm hn hC hc hpl hp1 hNx hG hi
    obtain ⟨n, rfl⟩ : ∃ k, n = k + 1 := ⟨n - 1, by omega⟩
    have hC' := hC
    obtain ⟨g1, g2, g3, g4, _⟩ := hC'
    have hpend : ∀ x, x ∈ p1 ++ pl → L + 1 ≤ rk x := by
      intro x hx
      rcases List.mem_append.mp hx with h | h
      · have := hp1 x h; omega
      · rcases hpl with ⟨h1, _⟩ | ⟨y, h1, h2, _⟩
        · rw [h1] at h; cases h
        · rw [h1, List.mem_singleton] at h; rw [h]; omega
    have hnx2 : L + 2 ≤ rk (tk f tape a1) → rk (tk f tape a1) = 3 ∧ ∃ P1 P2, p1 ++ pl = P1 ++ P2 ∧ (∀ x, x ∈ P1 → 3 ≤ rk x) ∧ ∃ x, x ∈ P1 ∧ rk x = 3 := by
      intro h
      obtain ⟨h1, P1, P2, h2, h3, h4⟩ := hNx h
      exact ⟨h1, P1, P2 ++ pl, by rw [h2, List.append_assoc], h3, h4⟩
    have hiB : I (if L = 2 then 1 else 120) ≤ I i ↔ (if L = 2 then 1 else 120) ≤ i := I_le (by split <;> omega) (by omega)
    rw [x4_readJoined_34]
    by_cases hT : (if L = 2 then 1 else 120) ≤ i
    · rw [if_pos (hiB.mpr hT)]
      refine ⟨a1, -1, s1, uw1, steps1, rfl, by omega, Or.inl ⟨rfl, c, c1, p1 ++ pl, hC, hc, hpend, ?_, hG⟩⟩
      intro h
      by_cases h1 : rk (tk f tape a1) = L + 1
      · by_cases h2 : L = 2
        · rw [if_pos h2] at hT
          rcases hpl with ⟨_, h3⟩ | ⟨y, h3, h4, _, _⟩
          · omega
          · refine ⟨by omega, p1 ++ pl, [], by rw [List.append_nil], fun x hx => by have := hpend x hx; omega, y, List.mem_append.mpr (Or.inr (by rw [h3]; exact List.mem_singleton.mpr rfl)), by omega⟩
        · rw [if_neg h2] at hT; omega
      · exact hnx2 (by omega)
    · rw [if_neg (fun h => hT (hiB.mp h)), x4nextI hf (by omega), Option.bind_some, x4level, Option.bind_some]
      by_cases hop : rk (tk f tape a1) = L + 1
      · have ha1 : a1 < f := tk_lt (by intro h; rw [h, rk_un (Or.inr (Or.inr (Or.inr (Or.inr (Or.inl rfl)))))] at hop; omega)
        obtain ⟨a2, fl2, s2, uw2, steps2, e, hs2, out⟩ := hIH (L + 1) o (a1 + 1) s1 uw1 steps1 (by omega) ho hd (by omega) (by omega)
        rw [if_pos ((lv_eq (by omega)).mpr hop), Option.bind_some, I_succ, I_succ, e, Option.bind_some]
        have hgo : ∀ b p1' asked lF lM lT ls l2 o0 v0 Q K W, b ≤ 480 → TopOk L W → oc W = o → GE f b tape p1' asked lF lM lT ls l2 o0 v0 Q (a1 + 1) (K ++ c1 ++ (p1 ++ pl)) (tk f tape a1 :: W) → GE f b tape p1' asked lF lM lT ls l2 o0 v0 Q a K W := by
          intro b p1' asked lF lM lT ls l2 o0 v0 Q K W hb hTop hoc hE
          refine hG b p1' asked lF lM lT ls l2 o0 v0 Q K W hb hTop hoc (GA_op hf hb (by omega) (fun x hx => by rw [hop]; exact hpend x hx) ?_ (fun x V he => by have := (hTop x V he).1; omega) hE)
          intro h3 x hx
          rcases hpl with ⟨h4, _⟩ | ⟨y, _, _, h5, _⟩
          · rw [h4, List.append_nil] at hx
            have := hp1 x hx; omega
          · rw [if_pos (by omega)] at hT; omega
        have htop : ∀ W, TopOk (L + 1) (tk f tape a1 :: W) := by
          intro W x V he
          injection he with e1 e2
          rw [← e1]
          refine ⟨by omega, ?_, ?_⟩ <;> (intro h; rw [h] at hop; exact absurd hop (by rw [rk_un (by simp)]; omega))
        have hocT : ∀ W, oc (tk f tape a1 :: W) = oc W := by
          intro W; show (if rk _ = 0 then 1 else 0) + oc W = _; rw [if_neg (by omega)]; omega
        rcases out with ⟨rfl, c2, c21, pend2, hC2, hc2, hp2, hNx2, hG2⟩ | ⟨pos, hpos, rfl, hB⟩
        · have hC2' := hC2
          obtain ⟨k1, k2, k3, k4, _⟩ := hC2'
          rw [show (I a2, (-1 : Int32), I s2, uw2, steps2).2.2.1 = I s2 from rfl, x6add_I (by omega), Option.bind_some, I_succ]
          refine ih n a2 (s2 + 1) _ _ (c ++ c2 ++ [tk f tape a1]) (c1 ++ (p1 ++ pl) ++ c21) [tk f tape a1] pend2 (i + 1) (by clear hpl; omega) (by clear hpl; omega) (hC.op hC2 (by clear hpl; omega) (by clear hpl; omega)) ?_ (Or.inr ⟨_, rfl, hop, by clear hpl; omega, fun h => by clear hpl; rw [if_pos h] at hT; omega⟩) hp2 hNx2 ?_ (by clear hpl; omega)
          · rw [hc, hc2]; simp only [List.append_assoc]
          · intro b p1' asked lF lM lT ls l2 o0 v0 Q K W hb hTop hoc hGA
            refine hgo b p1' asked lF lM lT ls l2 o0 v0 Q K W hb hTop hoc (hG2 b p1' asked lF lM lT ls l2 o0 v0 Q _ _ hb (htop W) (by rw [hocT]; exact hoc) ?_)
            have e1 : K ++ c1 ++ (p1 ++ pl) ++ c21 = K ++ (c1 ++ (p1 ++ pl) ++ c21) := by simp only [List.append_assoc]
            have e2 : pend2 ++ tk f tape a1 :: W = pend2 ++ [tk f tape a1] ++ W := by rw [List.append_assoc]; rfl
            rw [e1, e2]; exact hGA
        · obtain ⟨s3, uw3, steps3, e3, hs3⟩ := x6add_any hs2 uw2 steps2 (tk f tape a1)
          rw [show (I a2, I pos, I s2, uw2, steps2).2.2.1 = I s2 from rfl, e3, Option.bind_some]
          obtain ⟨n, rfl⟩ : ∃ k, n = k + 1 := ⟨n - 1, by omega⟩
          refine ⟨a2, I pos, s3, uw3, steps3, dead34 (pos_ne (by omega)) _ _ _ _ (by omega) _ _ _ _, hs3, Or.inr ⟨pos, hpos, rfl, ?_⟩⟩
          intro b p1' asked lF lM lT ls l2 o0 v0 Q K W hb hTop hoc hQ
          exact hgo b p1' asked lF lM lT ls l2 o0 v0 Q K W hb hTop hoc (hB b p1' asked lF lM lT ls l2 o0 v0 Q _ _ hb (htop W) (by rw [hocT]; exact hoc) hQ)
      · rw [if_neg (fun h => hop ((lv_eq (by omega)).mp h))]
        exact ⟨a1, -1, s1, uw1, steps1, rfl, by omega, Or.inl ⟨rfl, c, c1, p1 ++ pl, hC, hc, hpend, fun h => hnx2 (by omega), hG⟩⟩
theorem nameB : ∀ m, m < 256 → xj0_indexOf_0f7a4 (((I m).toUInt32 % 65536).toInt32) = x9_nameOf (I m) := by decide +kernel
theorem nameR : ∀ m, m < 256 → (x9_nameOf (I m)).any (fun v => decide (v = -1) || (decide (0 ≤ v) && decide (v ≤ 9))) = true := by decide +kernel
theorem opStart {f : Nat} {tape : Nat → Int32} (hf : f ≤ 120) (hB : ∀ j, j < f → ∃ m, m ≤ 255 ∧ tape j = I m) {a : Nat} (ha : a ≤ f) (d : Nat) (size : Int32) (uw : Bool) (steps : Nat → Int32) (o z : Int32) :
    ∃ v, x9_nameOf (tk f tape a) = some v ∧ (v = -1 ∨ ∃ k, k ≤ 9 ∧ v = I k) ∧ x4_readJoinedR (d + 1) false (I f) (I a) (-1) tape size uw steps o z = x4_readOperand_20 (x4_readJoinedR d) (I f) tape o (I a) (-1) size uw steps (tk f tape a) v := by
  by_cases h : a < f
  · obtain ⟨m, hm, e⟩ := hB a h
    have ht : tk f tape a = I m := by unfold tk; rw [if_pos h, e]
    have h1 := nameB m (by omega)
    have h2 := nameR m (by omega)
    cases hv : x9_nameOf (I m) with
    | none => rw [hv] at h2; exact absurd h2 (by decide)
    | some v =>
      rw [hv] at h2 h1
      refine ⟨v, by rw [ht, hv], ?_, ?_⟩
      · have h3 : v = -1 ∨ (0 ≤ v ∧ v ≤ 9) := by simpa using h2
        rcases h3 with h3 | ⟨h3, h4⟩
        · exact Or.inl h3
        · obtain ⟨k, _, q2, q3⟩ := In_of (v := v) (a := 0) (b := 9) (by omega) (by omega) (Int32.not_lt.mpr h3) (Int32.not_lt.mpr h4)
          exact Or.inr ⟨k, q2, q3⟩
      · rw [x4_readJoinedR, x4nextI hf ha, Option.bind_some, ht, if_pos (by show I 0 ≤ I m; rw [I_le (by omega) (by omega)]; omega), h1, Option.bind_some]
  · have ht : tk f tape a = -1 := by unfold tk; rw [if_neg h]
    refine ⟨-1, by rw [ht]; decide, Or.inl rfl, ?_⟩
    rw [x4_readJoinedR, x4nextI hf ha, Option.bind_some, ht, if_neg (by decide)]
theorem stepJ {f : Nat} {tape : Nat → Int32} (hf : f ≤ 120) {d : Nat} (hJ : PJ f tape d) (hO : PO f tape d) : PJ f tape (d + 1) := by
  intro L o a s uw steps hL ho hd ha hs
  rw [x4_readJoinedR]
  by_cases h5 : L = 5
  · obtain ⟨a2, fl2, s2, uw2, steps2, e, hs2, out⟩ := hO o a s uw steps 0 ho (by omega) ha hs
    rw [if_neg (by show ¬ (I L < I 5); rw [I_lt (by omega) (by omega)]; omega), e, Option.bind_some]
    refine ⟨a2, fl2, s2, uw2, steps2, rfl, hs2, ?_⟩
    rcases out with ⟨h1, c, hC, hG⟩ | ⟨pos, hpos, h1, hB⟩
    · refine Or.inl ⟨h1, c, c, [], by rw [h5]; exact hC.weaken (Nat.le_refl _) (Nat.le_refl _) hC.2.1 (by omega), by rw [List.append_nil], fun x hx => (by cases hx), ?_, ?_⟩
      · intro h; have := rk_le (tk f tape a2); omega
      · intro b p1 asked lF lM lT ls l2 o0 v0 Q K W hb hTop hoc hGA
        refine hG b p1 asked lF lM lT ls l2 o0 v0 Q K W hb hoc ?_
        have hsW := strp_ok (W := W) (fun x V he => (hTop x V he).2)
        rw [hsW.1, hsW.2, List.append_nil]; exact hGA
    · exact Or.inr ⟨pos, hpos, h1, fun b p1 asked lF lM lT ls l2 o0 v0 Q K W hb _ hoc hQ => hB b p1 asked lF lM lT ls l2 o0 v0 Q K W hb hoc hQ⟩
  · obtain ⟨a2, fl2, s2, uw2, steps2, e, hs2, out⟩ := hJ (L + 1) o a s uw steps (by omega) ho (by omega) ha hs
    rw [if_pos (by show I L < I 5; rw [I_lt (by omega) (by omega)]; omega), I_succ, e, Option.bind_some]
    have hT : ∀ {α : Type} (x : Int32 → α), (if I L = 2 then x 1 else x 120) = x (I (if L = 2 then 1 else 120)) := by
      intro α x
      by_cases h2 : L = 2
      · rw [if_pos (by rw [h2]; rfl), if_pos h2]; rfl
      · rw [if_neg (by show ¬ (I L = I 2); rw [I_eq (by omega) (by omega)]; exact h2), if_neg h2]; rfl
    rw [hT (fun t => x4_readJoined_30 (x4_readJoinedR d) (I f) tape (I L) (I o) (I a2, fl2, I s2, uw2, steps2).1 (I a2, fl2, I s2, uw2, steps2).2.1 (I a2, fl2, I s2, uw2, steps2).2.2.1 (I a2, fl2, I s2, uw2, steps2).2.2.2.1 (I a2, fl2, I s2, uw2, steps2).2.2.2.2 t)]
    rcases out with ⟨rfl, c, c1, pend, hC, hc, hp, hNx, hG⟩ | ⟨pos, hpos, rfl, hB⟩
    · refine Jloop hf (by omega) ho hJ (by omega) hs f yN a2 s2 uw2 steps2 c c1 [] pend 0 (by omega) (by unfold yN; omega) (hC.weaken (Nat.le_refl _) (Nat.le_refl _) hC.2.1 (by omega)) (by rw [List.append_nil]; exact hc) (Or.inl ⟨rfl, rfl⟩) (fun x hx => hp x hx) hNx ?_ (by have := hC.1; omega)
      intro b p1 asked lF lM lT ls l2 o0 v0 Q K W hb hTop hoc hGA
      rw [List.append_nil] at hGA
      exact hG b p1 asked lF lM lT ls l2 o0 v0 Q K W hb (topok_weak hTop (by omega)) hoc hGA
    · refine ⟨a2, I pos, s2, uw2, steps2, dead34 (pos_ne (by omega)) _ _ _ _ (by omega) _ _ 99999 _, hs2, Or.inr ⟨pos, hpos, rfl, ?_⟩⟩
      intro b p1 asked lF lM lT ls l2 o0 v0 Q K W hb hTop hoc hQ
      exact hB b p1 asked lF lM lT ls l2 o0 v0 Q K W hb (topok_weak hTop (by omega)) hoc hQ

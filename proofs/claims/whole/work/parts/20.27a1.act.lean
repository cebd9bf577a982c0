/-! act: what it asks (laid by mkact3.py) -/
theorem m_act {nb : Nat} {x22 m24 x23 m25 : Int32} {kinds trace mk mt : Nat → Int32} (h : BodOk nb x22 m24 x23 m25 kinds trace mk mt) (sf kd p1 p2 p3 : Int32) :
    ∃ o1 o2, x8_act x22 x23 sf kd kinds trace p1 p2 p3 = some o1 ∧ x9_act m24 m25 mk mt p1 p2 p3 = some o2 ∧ o1.1 = o2.1 ∧ BodOk nb x22 m24 o1.2.1 o2.2.1 kinds o1.2.2.2.2 mk o2.2.2 := by
  obtain ⟨h1, rfl, rfl, rfl, rfl, rfl, h6, h7⟩ := h
  unfold x8_act x0_perform x9_act
  have zer : BodOk nb (I nb) (I nb) 0 0 mk mt mk mt := ⟨h1, rfl, rfl, rfl, rfl, rfl, ⟨0, by omega, rfl⟩, h7⟩
  rcases has_is h1 p1 with ⟨k, hk, rfl, e1, e2⟩ | ⟨e1, e2, _⟩
  · rw [e1, e2, Option.bind_some, Option.bind_some, bif_t, bif_t]
    have hn : inB (I k) 50 = true := by rw [I_inB (by omega)]; exact decide_eq_true (by omega)
    have hc : (I k).toNatClampNeg = k := I_clamp (by omega)
    have hin : In (mk (I k).toNatClampNeg) 0 7 := by rw [hc]; exact h7 k hk
    rcases upto_is p2 3 (by decide) with ⟨u, hu⟩ | ⟨a, ha, rfl, u, u1, u2⟩
    · have u' : x9_within p2 0 3 = some false := u
      rw [u']
      rcases hu with hu | ⟨hu, hu'⟩
      · rw [if_pos hu]; exact ⟨_, _, rfl, rfl, rfl, zer⟩
      · rw [if_neg hu, if_neg (show ¬ p2 < 4 by
          intro h
          apply hu'
          rw [Int32.lt_iff_toInt_lt] at h
          rw [Int32.le_iff_toInt_le]
          have : (4 : Int32).toInt = 4 := by decide
          have : (I 3).toInt = 3 := by decide
          omega)]
        exact ⟨_, _, rfl, rfl, rfl, zer⟩
    · have u' : x9_within (I a) 0 3 = some true := u
      rw [u', if_neg u1, if_pos (show I a < 4 by show I a < I 4; rw [I_lt (by omega) (by omega)]; omega), hn, Option.bind_some, bif_t, bif_t]
      have ok : ∀ (r : Nat) (tr2 : Nat → Int32), r < 24 → BodOk nb (I nb) (I nb) (I r) (I r) mk tr2 mk tr2 := fun r tr2 hr => ⟨h1, rfl, rfl, rfl, rfl, rfl, ⟨r, by omega, rfl⟩, h7⟩
      have ha4 : a = 0 ∨ a = 1 ∨ a = 2 ∨ a = 3 := by omega
      rcases ha4 with rfl | rfl | rfl | rfl
      · obtain ⟨v, r, tr2, hr, f1, f2⟩ := act_0 hn hin p3 mt
        have ea : I 0 = 0 := rfl
        rw [ea, if_pos (show (0 : Int32) = 0 from rfl), f1, f2, Option.bind_some, Option.bind_some, Option.bind_some]
        exact ⟨_, _, rfl, rfl, rfl, ok r tr2 hr⟩
      · obtain ⟨v, r, tr2, hr, f1, f2⟩ := act_1 hn hin p3 mt
        have ea : I 1 = 1 := rfl
        rw [ea, if_neg (show ¬ ((1 : Int32) = 0) by decide), if_pos (show (1 : Int32) = 1 from rfl), f1, f2, Option.bind_some, Option.bind_some, Option.bind_some]
        exact ⟨_, _, rfl, rfl, rfl, ok r tr2 hr⟩
      · obtain ⟨v, r, tr2, hr, f1, f2⟩ := act_2 hn hin p3 mt
        have ea : I 2 = 2 := rfl
        rw [ea, if_neg (show ¬ ((2 : Int32) = 0) by decide), if_neg (show ¬ ((2 : Int32) = 1) by decide), if_pos (show (2 : Int32) = 2 from rfl), f1, f2, Option.bind_some, Option.bind_some, Option.bind_some]
        exact ⟨_, _, rfl, rfl, rfl, ok r tr2 hr⟩
      · obtain ⟨v, r, tr2, hr, f1, f2⟩ := act_3 hn hin p3 mt
        have ea : I 3 = 3 := rfl
        rw [ea, if_neg (show ¬ ((3 : Int32) = 0) by decide), if_neg (show ¬ ((3 : Int32) = 1) by decide), if_neg (show ¬ ((3 : Int32) = 2) by decide), f1, f2, Option.bind_some, Option.bind_some, Option.bind_some]
        exact ⟨_, _, rfl, rfl, rfl, ok r tr2 hr⟩
  · rw [e1, e2]; exact ⟨_, _, rfl, rfl, rfl, zer⟩

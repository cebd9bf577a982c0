/-! an act as a call (laid by mkact3) -/
theorem act_0 {n : Int32} (hn : inB n 50 = true) {kind : Nat → Int32} (hk : In (kind n.toNatClampNeg) 0 7) (x : Int32) (tr : Nat → Int32) : ∃ v r tr', r < 24 ∧ x0_runR 64 (I 0) n (kind n.toNatClampNeg) tr 0 (kind n.toNatClampNeg) x (I 0) = some (v, I r, tr') ∧ x9_standsAct (I 0) kind tr n x = some (v, I r, tr') := by
  have hk8 := kind_is hk
  rcases hk8 with hk | hk | hk | hk | hk | hk | hk | hk
  · have q := act_00 hn hk x tr
    rw [hk]
    have q1 := q.1
    obtain ⟨v, r, tr', hr, e2⟩ := q.2
    exact ⟨v, r, tr', hr, Eq.trans q1 e2, e2⟩
  · have q := act_01 hn hk x tr
    rw [hk]
    have q1 := q.1
    obtain ⟨v, r, tr', hr, e2⟩ := q.2
    exact ⟨v, r, tr', hr, Eq.trans q1 e2, e2⟩
  · have q := act_02 hn hk x tr
    rw [hk]
    have q1 := q.1
    obtain ⟨v, r, tr', hr, e2⟩ := q.2
    exact ⟨v, r, tr', hr, Eq.trans q1 e2, e2⟩
  · have q := act_03 hn hk x tr
    rw [hk]
    have q1 := q.1
    obtain ⟨v, r, tr', hr, e2⟩ := q.2
    exact ⟨v, r, tr', hr, Eq.trans q1 e2, e2⟩
  · have q := act_04 hn hk x tr
    rw [hk]
    have q1 := q.1
    obtain ⟨v, r, tr', hr, e2⟩ := q.2
    exact ⟨v, r, tr', hr, Eq.trans q1 e2, e2⟩
  · have q := act_05 hn hk x tr
    rw [hk]
    have q1 := q.1
    obtain ⟨v, r, tr', hr, e2⟩ := q.2
    exact ⟨v, r, tr', hr, Eq.trans q1 e2, e2⟩
  · have q := act_06 hn hk x tr
    rw [hk]
    have q1 := q.1
    obtain ⟨v, r, tr', hr, e2⟩ := q.2
    exact ⟨v, r, tr', hr, Eq.trans q1 e2, e2⟩
  · have q := act_07 hn hk x tr
    rw [hk]
    have q1 := q.1
    obtain ⟨v, r, tr', hr, e2⟩ := q.2
    exact ⟨v, r, tr', hr, Eq.trans q1 e2, e2⟩
theorem act_1 {n : Int32} (hn : inB n 50 = true) {kind : Nat → Int32} (hk : In (kind n.toNatClampNeg) 0 7) (x : Int32) (tr : Nat → Int32) : ∃ v r tr', r < 24 ∧ x0_runR 64 (I 0) n (kind n.toNatClampNeg) tr 1 (kind n.toNatClampNeg) x (I 0) = some (v, I r, tr') ∧ x9_stopsAct (I 0) kind tr n x = some (v, I r, tr') := by
  have hk8 := kind_is hk
  rcases hk8 with hk | hk | hk | hk | hk | hk | hk | hk
  · have q := act_10 hn hk x tr
    rw [hk]
    have q1 := q.1
    obtain ⟨v, r, tr', hr, e2⟩ := q.2
    exact ⟨v, r, tr', hr, Eq.trans q1 e2, e2⟩
  · have q := act_11 hn hk x tr
    rw [hk]
    have q1 := q.1
    obtain ⟨v, r, tr', hr, e2⟩ := q.2
    exact ⟨v, r, tr', hr, Eq.trans q1 e2, e2⟩
  · have q := act_12 hn hk x tr
    rw [hk]
    have q1 := q.1
    obtain ⟨v, r, tr', hr, e2⟩ := q.2
    exact ⟨v, r, tr', hr, Eq.trans q1 e2, e2⟩
  · have q := act_13 hn hk x tr
    rw [hk]
    have q1 := q.1
    obtain ⟨v, r, tr', hr, e2⟩ := q.2
    exact ⟨v, r, tr', hr, Eq.trans q1 e2, e2⟩
  · have q := act_14 hn hk x tr
    rw [hk]
    have q1 := q.1
    obtain ⟨v, r, tr', hr, e2⟩ := q.2
    exact ⟨v, r, tr', hr, Eq.trans q1 e2, e2⟩
  · have q := act_15 hn hk x tr
    rw [hk]
    have q1 := q.1
    obtain ⟨v, r, tr', hr, e2⟩ := q.2
    exact ⟨v, r, tr', hr, Eq.trans q1 e2, e2⟩
  · have q := act_16 hn hk x tr
    rw [hk]
    have q1 := q.1
    obtain ⟨v, r, tr', hr, e2⟩ := q.2
    exact ⟨v, r, tr', hr, Eq.trans q1 e2, e2⟩
  · have q := act_17 hn hk x tr
    rw [hk]
    have q1 := q.1
    obtain ⟨v, r, tr', hr, e2⟩ := q.2
    exact ⟨v, r, tr', hr, Eq.trans q1 e2, e2⟩
theorem act_2 {n : Int32} (hn : inB n 50 = true) {kind : Nat → Int32} (hk : In (kind n.toNatClampNeg) 0 7) (x : Int32) (tr : Nat → Int32) : ∃ v r tr', r < 24 ∧ x0_runR 64 (I 0) n (kind n.toNatClampNeg) tr 2 (kind n.toNatClampNeg) x (I 0) = some (v, I r, tr') ∧ x9_ridesAct (I 0) kind tr n x = some (v, I r, tr') := by
  have hk8 := kind_is hk
  rcases hk8 with hk | hk | hk | hk | hk | hk | hk | hk
  · have q := act_20 hn hk x tr
    rw [hk]
    have q1 := q.1
    obtain ⟨v, r, tr', hr, e2⟩ := q.2
    exact ⟨v, r, tr', hr, Eq.trans q1 e2, e2⟩
  · have q := act_21 hn hk x tr
    rw [hk]
    have q1 := q.1
    obtain ⟨v, r, tr', hr, e2⟩ := q.2
    exact ⟨v, r, tr', hr, Eq.trans q1 e2, e2⟩
  · have q := act_22 hn hk x tr
    rw [hk]
    have q1 := q.1
    obtain ⟨v, r, tr', hr, e2⟩ := q.2
    exact ⟨v, r, tr', hr, Eq.trans q1 e2, e2⟩
  · have q := act_23 hn hk x tr
    rw [hk]
    have q1 := q.1
    obtain ⟨v, r, tr', hr, e2⟩ := q.2
    exact ⟨v, r, tr', hr, Eq.trans q1 e2, e2⟩
  · have q := act_24 hn hk x tr
    rw [hk]
    have q1 := q.1
    obtain ⟨v, r, tr', hr, e2⟩ := q.2
    exact ⟨v, r, tr', hr, Eq.trans q1 e2, e2⟩
  · have q := act_25 hn hk x tr
    rw [hk]
    have q1 := q.1
    obtain ⟨v, r, tr', hr, e2⟩ := q.2
    exact ⟨v, r, tr', hr, Eq.trans q1 e2, e2⟩
  · have q := act_26 hn hk x tr
    rw [hk]
    have q1 := q.1
    obtain ⟨v, r, tr', hr, e2⟩ := q.2
    exact ⟨v, r, tr', hr, Eq.trans q1 e2, e2⟩
  · have q := act_27 hn hk x tr
    rw [hk]
    have q1 := q.1
    obtain ⟨v, r, tr', hr, e2⟩ := q.2
    exact ⟨v, r, tr', hr, Eq.trans q1 e2, e2⟩
theorem act_3 {n : Int32} (hn : inB n 50 = true) {kind : Nat → Int32} (hk : In (kind n.toNatClampNeg) 0 7) (x : Int32) (tr : Nat → Int32) : ∃ v r tr', r < 24 ∧ x0_runR 64 (I 0) n (kind n.toNatClampNeg) tr 3 (kind n.toNatClampNeg) x (I 0) = some (v, I r, tr') ∧ x9_choosesAct (I 0) kind tr n x = some (v, I r, tr') := by
  have hk8 := kind_is hk
  rcases hk8 with hk | hk | hk | hk | hk | hk | hk | hk
  · have q := act_30 hn hk x tr
    rw [hk]
    have q1 := q.1
    obtain ⟨v, r, tr', hr, e2⟩ := q.2
    exact ⟨v, r, tr', hr, Eq.trans q1 e2, e2⟩
  · have q := act_31 hn hk x tr
    rw [hk]
    have q1 := q.1
    obtain ⟨v, r, tr', hr, e2⟩ := q.2
    exact ⟨v, r, tr', hr, Eq.trans q1 e2, e2⟩
  · have q := act_32 hn hk x tr
    rw [hk]
    have q1 := q.1
    obtain ⟨v, r, tr', hr, e2⟩ := q.2
    exact ⟨v, r, tr', hr, Eq.trans q1 e2, e2⟩
  · have q := act_33 hn hk x tr
    rw [hk]
    have q1 := q.1
    obtain ⟨v, r, tr', hr, e2⟩ := q.2
    exact ⟨v, r, tr', hr, Eq.trans q1 e2, e2⟩
  · have q := act_34 hn hk x tr
    rw [hk]
    have q1 := q.1
    obtain ⟨v, r, tr', hr, e2⟩ := q.2
    exact ⟨v, r, tr', hr, Eq.trans q1 e2, e2⟩
  · have q := act_35 hn hk x tr
    rw [hk]
    have q1 := q.1
    obtain ⟨v, r, tr', hr, e2⟩ := q.2
    exact ⟨v, r, tr', hr, Eq.trans q1 e2, e2⟩
  · have q := act_36 hn hk x tr
    rw [hk]
    have q1 := q.1
    obtain ⟨v, r, tr', hr, e2⟩ := q.2
    exact ⟨v, r, tr', hr, Eq.trans q1 e2, e2⟩
  · have q := act_37 hn hk x tr
    rw [hk]
    have q1 := q.1
    obtain ⟨v, r, tr', hr, e2⟩ := q.2
    exact ⟨v, r, tr', hr, Eq.trans q1 e2, e2⟩
theorem m_act2 {nb : Nat} {x22 m24 x23 m25 : Int32} {kinds trace mk mt : Nat → Int32} (h : BodOk nb x22 m24 x23 m25 kinds trace mk mt) (sf kd p1 p2 p3 : Int32) :
    ∃ o1 o2, x8_act x22 x23 sf kd kinds trace p1 p2 p3 = some o1 ∧ x9_act m24 m25 mk mt p1 p2 p3 = some o2 ∧ o1.1 = o2.1 ∧ BodOk nb x22 m24 o1.2.1 o2.2.1 kinds o1.2.2.2.2 mk o2.2.2 := by
  obtain ⟨h1, rfl, rfl, rfl, rfl, rfl, h6, h7⟩ := h
  unfold x8_act x0_perform x9_act
  have zer : BodOk nb (I nb) (I nb) 0 0 kinds trace kinds trace := ⟨h1, rfl, rfl, rfl, rfl, rfl, ⟨0, by omega, rfl⟩, h7⟩
  rcases has_is h1 p1 with ⟨k, hk, rfl, e1, e2⟩ | ⟨e1, e2, _⟩
  · rw [e1, e2, Option.bind_some, Option.bind_some, bif_t, bif_t]
    have hn : inB (I k) 50 = true := by rw [I_inB (by omega)]; exact decide_eq_true (by omega)
    have hc : (I k).toNatClampNeg = k := I_clamp (by omega)
    have hin : In (kinds (I k).toNatClampNeg) 0 7 := by rw [hc]; exact h7 k hk
    rcases upto_is p2 3 (by decide) with ⟨u, hu⟩ | ⟨a, ha, rfl, u, u1, u2⟩
    · have u' : x9_within p2 0 3 = some false := u
      rw [u']
      rcases hu with hu | ⟨hu, hu'⟩
      · rw [if_pos hu]; exact ⟨_, _, rfl, rfl, rfl, zer⟩
      · rw [if_neg hu, if_neg (show ¬ p2 < 4 by
          intro h
          apply hu'
          rw [Int32.lt_iff_toInt_lt] at h
          rw [Int32.le_iff_toInt_le]
          have : (4 : Int32).toInt = 4 := by decide
          have : (I 3).toInt = 3 := by decide
          omega)]
        exact ⟨_, _, rfl, rfl, rfl, zer⟩
    · have u' : x9_within (I a) 0 3 = some true := u
      rw [u', if_neg u1, if_pos (show I a < 4 by show I a < I 4; rw [I_lt (by omega) (by omega)]; omega), hn, Option.bind_some, bif_t, bif_t]
      have ok : ∀ (r : Nat) (tr' : Nat → Int32), r < 24 → BodOk nb (I nb) (I nb) (I r) (I r) kinds tr' kinds tr' := fun r tr' hr => ⟨h1, rfl, rfl, rfl, rfl, rfl, ⟨r, by omega, rfl⟩, h7⟩
      have ha4 : a = 0 ∨ a = 1 ∨ a = 2 ∨ a = 3 := by omega
      rcases ha4 with rfl | rfl | rfl | rfl
      · have q := act_0 hn hin p3 trace
        rw [show I 0 = 0 from rfl] at q
        obtain ⟨v, r, tr', hr, f1, f2⟩ := q
        rw [show I 0 = 0 from rfl, if_pos (show (0 : Int32) = 0 from rfl), f1, f2, Option.bind_some, Option.bind_some, Option.bind_some]
        exact ⟨_, _, rfl, rfl, rfl, ok r tr' hr⟩
      · have q := act_1 hn hin p3 trace
        rw [show I 0 = 0 from rfl] at q
        obtain ⟨v, r, tr', hr, f1, f2⟩ := q
        rw [show I 1 = 1 from rfl, if_neg (show ¬ ((1 : Int32) = 0) by decide), if_pos (show (1 : Int32) = 1 from rfl), f1, f2, Option.bind_some, Option.bind_some, Option.bind_some]
        exact ⟨_, _, rfl, rfl, rfl, ok r tr' hr⟩
      · have q := act_2 hn hin p3 trace
        rw [show I 0 = 0 from rfl] at q
        obtain ⟨v, r, tr', hr, f1, f2⟩ := q
        rw [show I 2 = 2 from rfl, if_neg (show ¬ ((2 : Int32) = 0) by decide), if_neg (show ¬ ((2 : Int32) = 1) by decide), if_pos (show (2 : Int32) = 2 from rfl), f1, f2, Option.bind_some, Option.bind_some, Option.bind_some]
        exact ⟨_, _, rfl, rfl, rfl, ok r tr' hr⟩
      · have q := act_3 hn hin p3 trace
        rw [show I 0 = 0 from rfl] at q
        obtain ⟨v, r, tr', hr, f1, f2⟩ := q
        rw [show I 3 = 3 from rfl, if_neg (show ¬ ((3 : Int32) = 0) by decide), if_neg (show ¬ ((3 : Int32) = 1) by decide), if_neg (show ¬ ((3 : Int32) = 2) by decide), f1, f2, Option.bind_some, Option.bind_some, Option.bind_some]
        exact ⟨_, _, rfl, rfl, rfl, ok r tr' hr⟩
  · rw [e1, e2]; exact ⟨_, _, rfl, rfl, rfl, zer⟩

/-! an act as a call (laid by mkact3.py) -/
theorem act_gen {A : Int32 → Option (Int32 × Int32 × (Nat → Int32))} {B : Option (Int32 × Int32 × (Nat → Int32))} {k : Int32} (hk : In k 0 7) (h0 : k = 0 → A 0 = B ∧ ∃ (v : Int32) (r : Nat) (tr2 : Nat → Int32), r < 24 ∧ B = some (v, I r, tr2)) (h1 : k = 1 → A 1 = B ∧ ∃ (v : Int32) (r : Nat) (tr2 : Nat → Int32), r < 24 ∧ B = some (v, I r, tr2)) (h2 : k = 2 → A 2 = B ∧ ∃ (v : Int32) (r : Nat) (tr2 : Nat → Int32), r < 24 ∧ B = some (v, I r, tr2)) (h3 : k = 3 → A 3 = B ∧ ∃ (v : Int32) (r : Nat) (tr2 : Nat → Int32), r < 24 ∧ B = some (v, I r, tr2)) (h4 : k = 4 → A 4 = B ∧ ∃ (v : Int32) (r : Nat) (tr2 : Nat → Int32), r < 24 ∧ B = some (v, I r, tr2)) (h5 : k = 5 → A 5 = B ∧ ∃ (v : Int32) (r : Nat) (tr2 : Nat → Int32), r < 24 ∧ B = some (v, I r, tr2)) (h6 : k = 6 → A 6 = B ∧ ∃ (v : Int32) (r : Nat) (tr2 : Nat → Int32), r < 24 ∧ B = some (v, I r, tr2)) (h7 : k = 7 → A 7 = B ∧ ∃ (v : Int32) (r : Nat) (tr2 : Nat → Int32), r < 24 ∧ B = some (v, I r, tr2)) : ∃ (v : Int32) (r : Nat) (tr2 : Nat → Int32), r < 24 ∧ A k = some (v, I r, tr2) ∧ B = some (v, I r, tr2) := by
  rcases kind_is hk with h | h | h | h | h | h | h | h
  · obtain ⟨e, v, r, tr2, hr, e2⟩ := h0 h
    exact ⟨v, r, tr2, hr, by rw [h, e, e2], e2⟩
  · obtain ⟨e, v, r, tr2, hr, e2⟩ := h1 h
    exact ⟨v, r, tr2, hr, by rw [h, e, e2], e2⟩
  · obtain ⟨e, v, r, tr2, hr, e2⟩ := h2 h
    exact ⟨v, r, tr2, hr, by rw [h, e, e2], e2⟩
  · obtain ⟨e, v, r, tr2, hr, e2⟩ := h3 h
    exact ⟨v, r, tr2, hr, by rw [h, e, e2], e2⟩
  · obtain ⟨e, v, r, tr2, hr, e2⟩ := h4 h
    exact ⟨v, r, tr2, hr, by rw [h, e, e2], e2⟩
  · obtain ⟨e, v, r, tr2, hr, e2⟩ := h5 h
    exact ⟨v, r, tr2, hr, by rw [h, e, e2], e2⟩
  · obtain ⟨e, v, r, tr2, hr, e2⟩ := h6 h
    exact ⟨v, r, tr2, hr, by rw [h, e, e2], e2⟩
  · obtain ⟨e, v, r, tr2, hr, e2⟩ := h7 h
    exact ⟨v, r, tr2, hr, by rw [h, e, e2], e2⟩
theorem act_z {P : Int32 → Prop} (h : P (I 0)) : P 0 := by
  have e : I 0 = 0 := rfl
  rw [e] at h
  exact h
theorem act_0 {n : Int32} (hn : inB n 50 = true) {kind : Nat → Int32} (hk : In (kind n.toNatClampNeg) 0 7) (x : Int32) (tr : Nat → Int32) : ∃ (v : Int32) (r : Nat) (tr2 : Nat → Int32), r < 24 ∧ x0_runR 64 0 n (kind n.toNatClampNeg) tr 0 (kind n.toNatClampNeg) x 0 = some (v, I r, tr2) ∧ x9_standsAct 0 kind tr n x = some (v, I r, tr2) :=
  act_z (P := fun z => ∃ (v : Int32) (r : Nat) (tr2 : Nat → Int32), r < 24 ∧ x0_runR 64 z n (kind n.toNatClampNeg) tr 0 (kind n.toNatClampNeg) x z = some (v, I r, tr2) ∧ x9_standsAct z kind tr n x = some (v, I r, tr2)) (act_gen (A := fun f => x0_runR 64 (I 0) n f tr 0 f x (I 0)) (B := x9_standsAct (I 0) kind tr n x) hk (fun h => act_00 hn h x tr) (fun h => act_01 hn h x tr) (fun h => act_02 hn h x tr) (fun h => act_03 hn h x tr) (fun h => act_04 hn h x tr) (fun h => act_05 hn h x tr) (fun h => act_06 hn h x tr) (fun h => act_07 hn h x tr))
theorem act_1 {n : Int32} (hn : inB n 50 = true) {kind : Nat → Int32} (hk : In (kind n.toNatClampNeg) 0 7) (x : Int32) (tr : Nat → Int32) : ∃ (v : Int32) (r : Nat) (tr2 : Nat → Int32), r < 24 ∧ x0_runR 64 0 n (kind n.toNatClampNeg) tr 1 (kind n.toNatClampNeg) x 0 = some (v, I r, tr2) ∧ x9_stopsAct 0 kind tr n x = some (v, I r, tr2) :=
  act_z (P := fun z => ∃ (v : Int32) (r : Nat) (tr2 : Nat → Int32), r < 24 ∧ x0_runR 64 z n (kind n.toNatClampNeg) tr 1 (kind n.toNatClampNeg) x z = some (v, I r, tr2) ∧ x9_stopsAct z kind tr n x = some (v, I r, tr2)) (act_gen (A := fun f => x0_runR 64 (I 0) n f tr 1 f x (I 0)) (B := x9_stopsAct (I 0) kind tr n x) hk (fun h => act_10 hn h x tr) (fun h => act_11 hn h x tr) (fun h => act_12 hn h x tr) (fun h => act_13 hn h x tr) (fun h => act_14 hn h x tr) (fun h => act_15 hn h x tr) (fun h => act_16 hn h x tr) (fun h => act_17 hn h x tr))
theorem act_2 {n : Int32} (hn : inB n 50 = true) {kind : Nat → Int32} (hk : In (kind n.toNatClampNeg) 0 7) (x : Int32) (tr : Nat → Int32) : ∃ (v : Int32) (r : Nat) (tr2 : Nat → Int32), r < 24 ∧ x0_runR 64 0 n (kind n.toNatClampNeg) tr 2 (kind n.toNatClampNeg) x 0 = some (v, I r, tr2) ∧ x9_ridesAct 0 kind tr n x = some (v, I r, tr2) :=
  act_z (P := fun z => ∃ (v : Int32) (r : Nat) (tr2 : Nat → Int32), r < 24 ∧ x0_runR 64 z n (kind n.toNatClampNeg) tr 2 (kind n.toNatClampNeg) x z = some (v, I r, tr2) ∧ x9_ridesAct z kind tr n x = some (v, I r, tr2)) (act_gen (A := fun f => x0_runR 64 (I 0) n f tr 2 f x (I 0)) (B := x9_ridesAct (I 0) kind tr n x) hk (fun h => act_20 hn h x tr) (fun h => act_21 hn h x tr) (fun h => act_22 hn h x tr) (fun h => act_23 hn h x tr) (fun h => act_24 hn h x tr) (fun h => act_25 hn h x tr) (fun h => act_26 hn h x tr) (fun h => act_27 hn h x tr))
theorem act_3 {n : Int32} (hn : inB n 50 = true) {kind : Nat → Int32} (hk : In (kind n.toNatClampNeg) 0 7) (x : Int32) (tr : Nat → Int32) : ∃ (v : Int32) (r : Nat) (tr2 : Nat → Int32), r < 24 ∧ x0_runR 64 0 n (kind n.toNatClampNeg) tr 3 (kind n.toNatClampNeg) x 0 = some (v, I r, tr2) ∧ x9_choosesAct 0 kind tr n x = some (v, I r, tr2) :=
  act_z (P := fun z => ∃ (v : Int32) (r : Nat) (tr2 : Nat → Int32), r < 24 ∧ x0_runR 64 z n (kind n.toNatClampNeg) tr 3 (kind n.toNatClampNeg) x z = some (v, I r, tr2) ∧ x9_choosesAct z kind tr n x = some (v, I r, tr2)) (act_gen (A := fun f => x0_runR 64 (I 0) n f tr 3 f x (I 0)) (B := x9_choosesAct (I 0) kind tr n x) hk (fun h => act_30 hn h x tr) (fun h => act_31 hn h x tr) (fun h => act_32 hn h x tr) (fun h => act_33 hn h x tr) (fun h => act_34 hn h x tr) (fun h => act_35 hn h x tr) (fun h => act_36 hn h x tr) (fun h => act_37 hn h x tr))

/-! acts -/
theorem runStep {d r e : Nat} {s k x a f o up w : Int32} {tr : Nat → Int32} (ho : x0_ownerOf a f = some o) (h0 : ¬ o < 0) (i1 : inB o 8 = true) (i2 : inB ((o * 4) + a) 32 = true) (hw : ysOWN ((o * 4) + a).toNatClampNeg = w) (hu : ysABOVE o.toNatClampNeg = up) (hr : r < 24) (he : e ≤ 40) :
    x0_runR (d + 1) (I r) s k tr a f x (I e) = x0_run_67 (x0_runR d) s k x (I r) (upd tr r w) up (I (e + 1)) w := by
  rw [x0_runR, ho, Option.bind_some, if_neg h0, if_pos (by show I e ≤ I 40; rw [I_le (by omega) (by omega)]; exact he), i1, i2, bif_t, bif_t, if_neg (by show ¬ (I 24 ≤ I r); rw [I_le (by omega) (by omega)]; omega), I_inB (by omega), decide_eq_true hr, bif_t, I_clamp (by omega), hw, hu, I_succ]
theorem R_00 {d r e : Nat} {s k x : Int32} {tr : Nat → Int32} (hr : r < 24) (he : e ≤ 40) : x0_runR (d + 1) (I r) s k tr 0 0 x (I e) = x0_run_67 (x0_runR d) s k x (I r) (upd tr r 1) (-1) (I (e + 1)) 1 :=
  runStep (o := 0) (by decide +kernel) (by decide) (by decide) (by decide) (by decide) (by decide) hr he
theorem R_01 {d r e : Nat} {s k x : Int32} {tr : Nat → Int32} (hr : r < 24) (he : e ≤ 40) : x0_runR (d + 1) (I r) s k tr 0 1 x (I e) = x0_run_67 (x0_runR d) s k x (I r) (upd tr r 20) 0 (I (e + 1)) 20 :=
  runStep (o := 1) (by decide +kernel) (by decide) (by decide) (by decide) (by decide) (by decide) hr he
theorem R_02 {d r e : Nat} {s k x : Int32} {tr : Nat → Int32} (hr : r < 24) (he : e ≤ 40) : x0_runR (d + 1) (I r) s k tr 0 2 x (I e) = x0_run_67 (x0_runR d) s k x (I r) (upd tr r 1) (-1) (I (e + 1)) 1 :=
  runStep (o := 0) (by decide +kernel) (by decide) (by decide) (by decide) (by decide) (by decide) hr he
theorem R_03 {d r e : Nat} {s k x : Int32} {tr : Nat → Int32} (hr : r < 24) (he : e ≤ 40) : x0_runR (d + 1) (I r) s k tr 0 3 x (I e) = x0_run_67 (x0_runR d) s k x (I r) (upd tr r 20) 0 (I (e + 1)) 20 :=
  runStep (o := 1) (by decide +kernel) (by decide) (by decide) (by decide) (by decide) (by decide) hr he
theorem R_04 {d r e : Nat} {s k x : Int32} {tr : Nat → Int32} (hr : r < 24) (he : e ≤ 40) : x0_runR (d + 1) (I r) s k tr 0 4 x (I e) = x0_run_67 (x0_runR d) s k x (I r) (upd tr r 1) (-1) (I (e + 1)) 1 :=
  runStep (o := 0) (by decide +kernel) (by decide) (by decide) (by decide) (by decide) (by decide) hr he
theorem R_05 {d r e : Nat} {s k x : Int32} {tr : Nat → Int32} (hr : r < 24) (he : e ≤ 40) : x0_runR (d + 1) (I r) s k tr 0 5 x (I e) = x0_run_67 (x0_runR d) s k x (I r) (upd tr r 1) (-1) (I (e + 1)) 1 :=
  runStep (o := 0) (by decide +kernel) (by decide) (by decide) (by decide) (by decide) (by decide) hr he
theorem R_06 {d r e : Nat} {s k x : Int32} {tr : Nat → Int32} (hr : r < 24) (he : e ≤ 40) : x0_runR (d + 1) (I r) s k tr 0 6 x (I e) = x0_run_67 (x0_runR d) s k x (I r) (upd tr r 70) 4 (I (e + 1)) 70 :=
  runStep (o := 6) (by decide +kernel) (by decide) (by decide) (by decide) (by decide) (by decide) hr he
theorem R_07 {d r e : Nat} {s k x : Int32} {tr : Nat → Int32} (hr : r < 24) (he : e ≤ 40) : x0_runR (d + 1) (I r) s k tr 0 7 x (I e) = x0_run_67 (x0_runR d) s k x (I r) (upd tr r 81) 3 (I (e + 1)) 81 :=
  runStep (o := 7) (by decide +kernel) (by decide) (by decide) (by decide) (by decide) (by decide) hr he
theorem R_10 {d r e : Nat} {s k x : Int32} {tr : Nat → Int32} (hr : r < 24) (he : e ≤ 40) : x0_runR (d + 1) (I r) s k tr 1 0 x (I e) = x0_run_67 (x0_runR d) s k x (I r) (upd tr r 10) (-1) (I (e + 1)) 10 :=
  runStep (o := 0) (by decide +kernel) (by decide) (by decide) (by decide) (by decide) (by decide) hr he
theorem R_11 {d r e : Nat} {s k x : Int32} {tr : Nat → Int32} (hr : r < 24) (he : e ≤ 40) : x0_runR (d + 1) (I r) s k tr 1 1 x (I e) = x0_run_67 (x0_runR d) s k x (I r) (upd tr r 10) (-1) (I (e + 1)) 10 :=
  runStep (o := 0) (by decide +kernel) (by decide) (by decide) (by decide) (by decide) (by decide) hr he
theorem R_12 {d r e : Nat} {s k x : Int32} {tr : Nat → Int32} (hr : r < 24) (he : e ≤ 40) : x0_runR (d + 1) (I r) s k tr 1 2 x (I e) = x0_run_67 (x0_runR d) s k x (I r) (upd tr r 30) 0 (I (e + 1)) 30 :=
  runStep (o := 2) (by decide +kernel) (by decide) (by decide) (by decide) (by decide) (by decide) hr he
theorem R_13 {d r e : Nat} {s k x : Int32} {tr : Nat → Int32} (hr : r < 24) (he : e ≤ 40) : x0_runR (d + 1) (I r) s k tr 1 3 x (I e) = x0_run_67 (x0_runR d) s k x (I r) (upd tr r 41) 1 (I (e + 1)) 41 :=
  runStep (o := 3) (by decide +kernel) (by decide) (by decide) (by decide) (by decide) (by decide) hr he
theorem R_14 {d r e : Nat} {s k x : Int32} {tr : Nat → Int32} (hr : r < 24) (he : e ≤ 40) : x0_runR (d + 1) (I r) s k tr 1 4 x (I e) = x0_run_67 (x0_runR d) s k x (I r) (upd tr r 10) (-1) (I (e + 1)) 10 :=
  runStep (o := 0) (by decide +kernel) (by decide) (by decide) (by decide) (by decide) (by decide) hr he
theorem R_15 {d r e : Nat} {s k x : Int32} {tr : Nat → Int32} (hr : r < 24) (he : e ≤ 40) : x0_runR (d + 1) (I r) s k tr 1 5 x (I e) = x0_run_67 (x0_runR d) s k x (I r) (upd tr r 30) 0 (I (e + 1)) 30 :=
  runStep (o := 2) (by decide +kernel) (by decide) (by decide) (by decide) (by decide) (by decide) hr he
theorem R_16 {d r e : Nat} {s k x : Int32} {tr : Nat → Int32} (hr : r < 24) (he : e ≤ 40) : x0_runR (d + 1) (I r) s k tr 1 6 x (I e) = x0_run_67 (x0_runR d) s k x (I r) (upd tr r 10) (-1) (I (e + 1)) 10 :=
  runStep (o := 0) (by decide +kernel) (by decide) (by decide) (by decide) (by decide) (by decide) hr he
theorem R_17 {d r e : Nat} {s k x : Int32} {tr : Nat → Int32} (hr : r < 24) (he : e ≤ 40) : x0_runR (d + 1) (I r) s k tr 1 7 x (I e) = x0_run_67 (x0_runR d) s k x (I r) (upd tr r 80) 3 (I (e + 1)) 80 :=
  runStep (o := 7) (by decide +kernel) (by decide) (by decide) (by decide) (by decide) (by decide) hr he
theorem R_20 {d r e : Nat} {s k x : Int32} {tr : Nat → Int32} (hr : r < 24) (he : e ≤ 40) : x0_runR (d + 1) (I r) s k tr 2 0 x (I e) = x0_run_67 (x0_runR d) s k x (I r) (upd tr r 11) (-1) (I (e + 1)) 11 :=
  runStep (o := 0) (by decide +kernel) (by decide) (by decide) (by decide) (by decide) (by decide) hr he
theorem R_21 {d r e : Nat} {s k x : Int32} {tr : Nat → Int32} (hr : r < 24) (he : e ≤ 40) : x0_runR (d + 1) (I r) s k tr 2 1 x (I e) = x0_run_67 (x0_runR d) s k x (I r) (upd tr r 11) (-1) (I (e + 1)) 11 :=
  runStep (o := 0) (by decide +kernel) (by decide) (by decide) (by decide) (by decide) (by decide) hr he
theorem R_22 {d r e : Nat} {s k x : Int32} {tr : Nat → Int32} (hr : r < 24) (he : e ≤ 40) : x0_runR (d + 1) (I r) s k tr 2 2 x (I e) = x0_run_67 (x0_runR d) s k x (I r) (upd tr r 11) (-1) (I (e + 1)) 11 :=
  runStep (o := 0) (by decide +kernel) (by decide) (by decide) (by decide) (by decide) (by decide) hr he
theorem R_23 {d r e : Nat} {s k x : Int32} {tr : Nat → Int32} (hr : r < 24) (he : e ≤ 40) : x0_runR (d + 1) (I r) s k tr 2 3 x (I e) = x0_run_67 (x0_runR d) s k x (I r) (upd tr r 40) 1 (I (e + 1)) 40 :=
  runStep (o := 3) (by decide +kernel) (by decide) (by decide) (by decide) (by decide) (by decide) hr he
theorem R_24 {d r e : Nat} {s k x : Int32} {tr : Nat → Int32} (hr : r < 24) (he : e ≤ 40) : x0_runR (d + 1) (I r) s k tr 2 4 x (I e) = x0_run_67 (x0_runR d) s k x (I r) (upd tr r 11) (-1) (I (e + 1)) 11 :=
  runStep (o := 0) (by decide +kernel) (by decide) (by decide) (by decide) (by decide) (by decide) hr he
theorem R_25 {d r e : Nat} {s k x : Int32} {tr : Nat → Int32} (hr : r < 24) (he : e ≤ 40) : x0_runR (d + 1) (I r) s k tr 2 5 x (I e) = x0_run_67 (x0_runR d) s k x (I r) (upd tr r 60) 2 (I (e + 1)) 60 :=
  runStep (o := 5) (by decide +kernel) (by decide) (by decide) (by decide) (by decide) (by decide) hr he
theorem R_26 {d r e : Nat} {s k x : Int32} {tr : Nat → Int32} (hr : r < 24) (he : e ≤ 40) : x0_runR (d + 1) (I r) s k tr 2 6 x (I e) = x0_run_67 (x0_runR d) s k x (I r) (upd tr r 11) (-1) (I (e + 1)) 11 :=
  runStep (o := 0) (by decide +kernel) (by decide) (by decide) (by decide) (by decide) (by decide) hr he
theorem R_27 {d r e : Nat} {s k x : Int32} {tr : Nat → Int32} (hr : r < 24) (he : e ≤ 40) : x0_runR (d + 1) (I r) s k tr 2 7 x (I e) = x0_run_67 (x0_runR d) s k x (I r) (upd tr r 40) 1 (I (e + 1)) 40 :=
  runStep (o := 3) (by decide +kernel) (by decide) (by decide) (by decide) (by decide) (by decide) hr he
theorem R_30 {d r e : Nat} {s k x : Int32} {tr : Nat → Int32} (hr : r < 24) (he : e ≤ 40) : x0_runR (d + 1) (I r) s k tr 3 0 x (I e) = x0_run_67 (x0_runR d) s k x (I r) (upd tr r 2) (-1) (I (e + 1)) 2 :=
  runStep (o := 0) (by decide +kernel) (by decide) (by decide) (by decide) (by decide) (by decide) hr he
theorem R_31 {d r e : Nat} {s k x : Int32} {tr : Nat → Int32} (hr : r < 24) (he : e ≤ 40) : x0_runR (d + 1) (I r) s k tr 3 1 x (I e) = x0_run_67 (x0_runR d) s k x (I r) (upd tr r 2) (-1) (I (e + 1)) 2 :=
  runStep (o := 0) (by decide +kernel) (by decide) (by decide) (by decide) (by decide) (by decide) hr he
theorem R_32 {d r e : Nat} {s k x : Int32} {tr : Nat → Int32} (hr : r < 24) (he : e ≤ 40) : x0_runR (d + 1) (I r) s k tr 3 2 x (I e) = x0_run_67 (x0_runR d) s k x (I r) (upd tr r 2) (-1) (I (e + 1)) 2 :=
  runStep (o := 0) (by decide +kernel) (by decide) (by decide) (by decide) (by decide) (by decide) hr he
theorem R_33 {d r e : Nat} {s k x : Int32} {tr : Nat → Int32} (hr : r < 24) (he : e ≤ 40) : x0_runR (d + 1) (I r) s k tr 3 3 x (I e) = x0_run_67 (x0_runR d) s k x (I r) (upd tr r 2) (-1) (I (e + 1)) 2 :=
  runStep (o := 0) (by decide +kernel) (by decide) (by decide) (by decide) (by decide) (by decide) hr he
theorem R_34 {d r e : Nat} {s k x : Int32} {tr : Nat → Int32} (hr : r < 24) (he : e ≤ 40) : x0_runR (d + 1) (I r) s k tr 3 4 x (I e) = x0_run_67 (x0_runR d) s k x (I r) (upd tr r 50) 0 (I (e + 1)) 50 :=
  runStep (o := 4) (by decide +kernel) (by decide) (by decide) (by decide) (by decide) (by decide) hr he
theorem R_35 {d r e : Nat} {s k x : Int32} {tr : Nat → Int32} (hr : r < 24) (he : e ≤ 40) : x0_runR (d + 1) (I r) s k tr 3 5 x (I e) = x0_run_67 (x0_runR d) s k x (I r) (upd tr r 61) 2 (I (e + 1)) 61 :=
  runStep (o := 5) (by decide +kernel) (by decide) (by decide) (by decide) (by decide) (by decide) hr he
theorem R_36 {d r e : Nat} {s k x : Int32} {tr : Nat → Int32} (hr : r < 24) (he : e ≤ 40) : x0_runR (d + 1) (I r) s k tr 3 6 x (I e) = x0_run_67 (x0_runR d) s k x (I r) (upd tr r 50) 0 (I (e + 1)) 50 :=
  runStep (o := 4) (by decide +kernel) (by decide) (by decide) (by decide) (by decide) (by decide) hr he
theorem R_37 {d r e : Nat} {s k x : Int32} {tr : Nat → Int32} (hr : r < 24) (he : e ≤ 40) : x0_runR (d + 1) (I r) s k tr 3 7 x (I e) = x0_run_67 (x0_runR d) s k x (I r) (upd tr r 2) (-1) (I (e + 1)) 2 :=
  runStep (o := 0) (by decide +kernel) (by decide) (by decide) (by decide) (by decide) (by decide) hr he
theorem W_1 (kR : Int32 → Int32 → Int32 → (Nat → Int32) → Int32 → Int32 → Int32 → Int32 → Option (Int32 × Int32 × (Nat → Int32))) (s k x r : Int32) (tr : Nat → Int32) (u e : Int32) : x0_run_67 kR s k x r tr u e 1 = (some ((x + s), (r + 1), tr)) := by
  unfold x0_run_67
  rw [if_pos (show (1 : Int32) = 1 from rfl)]
theorem W_2 (kR : Int32 → Int32 → Int32 → (Nat → Int32) → Int32 → Int32 → Int32 → Int32 → Option (Int32 × Int32 × (Nat → Int32))) (s k x r : Int32) (tr : Nat → Int32) (u e : Int32) : x0_run_67 kR s k x r tr u e 2 = ((kR (r + 1) s k tr 1 k x e).bind fun o1 => (kR o1.2.1 s k o1.2.2 2 k 1 e).bind fun o2 => some ((o1.1 - o2.1), o2.2.1, o2.2.2)) := by
  unfold x0_run_67
  rw [if_neg (show ¬ ((2 : Int32) = 1) by decide), if_pos (show (2 : Int32) = 2 from rfl)]
theorem W_10 (kR : Int32 → Int32 → Int32 → (Nat → Int32) → Int32 → Int32 → Int32 → Int32 → Option (Int32 × Int32 × (Nat → Int32))) (s k x r : Int32) (tr : Nat → Int32) (u e : Int32) : x0_run_67 kR s k x r tr u e 10 = ((kR (r + 1) s k tr 0 k x e).bind fun o3 => some ((o3.1 * 2), o3.2.1, o3.2.2)) := by
  unfold x0_run_67
  rw [if_neg (show ¬ ((10 : Int32) = 1) by decide), if_neg (show ¬ ((10 : Int32) = 2) by decide), if_pos (show (10 : Int32) = 10 from rfl)]
theorem W_11 (kR : Int32 → Int32 → Int32 → (Nat → Int32) → Int32 → Int32 → Int32 → Int32 → Option (Int32 × Int32 × (Nat → Int32))) (s k x r : Int32) (tr : Nat → Int32) (u e : Int32) : x0_run_67 kR s k x r tr u e 11 = (some ((x ^^^ s), (r + 1), tr)) := by
  unfold x0_run_67
  rw [if_neg (show ¬ ((11 : Int32) = 1) by decide), if_neg (show ¬ ((11 : Int32) = 2) by decide), if_neg (show ¬ ((11 : Int32) = 10) by decide), if_pos (show (11 : Int32) = 11 from rfl)]
theorem W_20 (kR : Int32 → Int32 → Int32 → (Nat → Int32) → Int32 → Int32 → Int32 → Int32 → Option (Int32 × Int32 × (Nat → Int32))) (s k x r : Int32) (tr : Nat → Int32) (u e : Int32) : x0_run_67 kR s k x r tr u e 20 = ((kR (r + 1) s k tr 0 u x e).bind fun o4 => some ((o4.1 + 3), o4.2.1, o4.2.2)) := by
  unfold x0_run_67
  rw [if_neg (show ¬ ((20 : Int32) = 1) by decide), if_neg (show ¬ ((20 : Int32) = 2) by decide), if_neg (show ¬ ((20 : Int32) = 10) by decide), if_neg (show ¬ ((20 : Int32) = 11) by decide), if_pos (show (20 : Int32) = 20 from rfl)]
theorem W_30 (kR : Int32 → Int32 → Int32 → (Nat → Int32) → Int32 → Int32 → Int32 → Int32 → Option (Int32 × Int32 × (Nat → Int32))) (s k x r : Int32) (tr : Nat → Int32) (u e : Int32) : x0_run_67 kR s k x r tr u e 30 = ((kR (r + 1) s k tr 1 u x e).bind fun o5 => some ((-o5.1), o5.2.1, o5.2.2)) := by
  unfold x0_run_67
  rw [if_neg (show ¬ ((30 : Int32) = 1) by decide), if_neg (show ¬ ((30 : Int32) = 2) by decide), if_neg (show ¬ ((30 : Int32) = 10) by decide), if_neg (show ¬ ((30 : Int32) = 11) by decide), if_neg (show ¬ ((30 : Int32) = 20) by decide), if_pos (show (30 : Int32) = 30 from rfl)]
theorem W_40 (kR : Int32 → Int32 → Int32 → (Nat → Int32) → Int32 → Int32 → Int32 → Int32 → Option (Int32 × Int32 × (Nat → Int32))) (s k x r : Int32) (tr : Nat → Int32) (u e : Int32) : x0_run_67 kR s k x r tr u e 40 = ((kR (r + 1) s k tr 2 u x e).bind fun o6 => some ((o6.1 * 3), o6.2.1, o6.2.2)) := by
  unfold x0_run_67
  rw [if_neg (show ¬ ((40 : Int32) = 1) by decide), if_neg (show ¬ ((40 : Int32) = 2) by decide), if_neg (show ¬ ((40 : Int32) = 10) by decide), if_neg (show ¬ ((40 : Int32) = 11) by decide), if_neg (show ¬ ((40 : Int32) = 20) by decide), if_neg (show ¬ ((40 : Int32) = 30) by decide), if_pos (show (40 : Int32) = 40 from rfl)]
theorem W_41 (kR : Int32 → Int32 → Int32 → (Nat → Int32) → Int32 → Int32 → Int32 → Int32 → Option (Int32 × Int32 × (Nat → Int32))) (s k x r : Int32) (tr : Nat → Int32) (u e : Int32) : x0_run_67 kR s k x r tr u e 41 = ((kR (r + 1) s k tr 1 u (x + 1) e).bind fun o7 => some (o7.1, o7.2.1, o7.2.2)) := by
  unfold x0_run_67
  rw [if_neg (show ¬ ((41 : Int32) = 1) by decide), if_neg (show ¬ ((41 : Int32) = 2) by decide), if_neg (show ¬ ((41 : Int32) = 10) by decide), if_neg (show ¬ ((41 : Int32) = 11) by decide), if_neg (show ¬ ((41 : Int32) = 20) by decide), if_neg (show ¬ ((41 : Int32) = 30) by decide), if_neg (show ¬ ((41 : Int32) = 40) by decide), if_pos (show (41 : Int32) = 41 from rfl)]
theorem W_50 (kR : Int32 → Int32 → Int32 → (Nat → Int32) → Int32 → Int32 → Int32 → Int32 → Option (Int32 × Int32 × (Nat → Int32))) (s k x r : Int32) (tr : Nat → Int32) (u e : Int32) : x0_run_67 kR s k x r tr u e 50 = ((kR (r + 1) s k tr 3 u x e).bind fun o8 => some ((o8.1 ^^^ 5), o8.2.1, o8.2.2)) := by
  unfold x0_run_67
  rw [if_neg (show ¬ ((50 : Int32) = 1) by decide), if_neg (show ¬ ((50 : Int32) = 2) by decide), if_neg (show ¬ ((50 : Int32) = 10) by decide), if_neg (show ¬ ((50 : Int32) = 11) by decide), if_neg (show ¬ ((50 : Int32) = 20) by decide), if_neg (show ¬ ((50 : Int32) = 30) by decide), if_neg (show ¬ ((50 : Int32) = 40) by decide), if_neg (show ¬ ((50 : Int32) = 41) by decide), if_pos (show (50 : Int32) = 50 from rfl)]
theorem W_60 (kR : Int32 → Int32 → Int32 → (Nat → Int32) → Int32 → Int32 → Int32 → Int32 → Option (Int32 × Int32 × (Nat → Int32))) (s k x r : Int32) (tr : Nat → Int32) (u e : Int32) : x0_run_67 kR s k x r tr u e 60 = ((kR (r + 1) s k tr 2 u x e).bind fun o9 => (kR o9.2.1 s k o9.2.2 0 k 2 e).bind fun o10 => some ((o9.1 - o10.1), o10.2.1, o10.2.2)) := by
  unfold x0_run_67
  rw [if_neg (show ¬ ((60 : Int32) = 1) by decide), if_neg (show ¬ ((60 : Int32) = 2) by decide), if_neg (show ¬ ((60 : Int32) = 10) by decide), if_neg (show ¬ ((60 : Int32) = 11) by decide), if_neg (show ¬ ((60 : Int32) = 20) by decide), if_neg (show ¬ ((60 : Int32) = 30) by decide), if_neg (show ¬ ((60 : Int32) = 40) by decide), if_neg (show ¬ ((60 : Int32) = 41) by decide), if_neg (show ¬ ((60 : Int32) = 50) by decide), if_pos (show (60 : Int32) = 60 from rfl)]
theorem W_61 (kR : Int32 → Int32 → Int32 → (Nat → Int32) → Int32 → Int32 → Int32 → Int32 → Option (Int32 × Int32 × (Nat → Int32))) (s k x r : Int32) (tr : Nat → Int32) (u e : Int32) : x0_run_67 kR s k x r tr u e 61 = ((kR (r + 1) s k tr 3 u x e).bind fun o11 => some ((o11.1 + 1), o11.2.1, o11.2.2)) := by
  unfold x0_run_67
  rw [if_neg (show ¬ ((61 : Int32) = 1) by decide), if_neg (show ¬ ((61 : Int32) = 2) by decide), if_neg (show ¬ ((61 : Int32) = 10) by decide), if_neg (show ¬ ((61 : Int32) = 11) by decide), if_neg (show ¬ ((61 : Int32) = 20) by decide), if_neg (show ¬ ((61 : Int32) = 30) by decide), if_neg (show ¬ ((61 : Int32) = 40) by decide), if_neg (show ¬ ((61 : Int32) = 41) by decide), if_neg (show ¬ ((61 : Int32) = 50) by decide), if_neg (show ¬ ((61 : Int32) = 60) by decide), if_pos (show (61 : Int32) = 61 from rfl)]
theorem W_70 (kR : Int32 → Int32 → Int32 → (Nat → Int32) → Int32 → Int32 → Int32 → Int32 → Option (Int32 × Int32 × (Nat → Int32))) (s k x r : Int32) (tr : Nat → Int32) (u e : Int32) : x0_run_67 kR s k x r tr u e 70 = ((kR (r + 1) s k tr 0 u x e).bind fun o12 => some ((o12.1 * 2), o12.2.1, o12.2.2)) := by
  unfold x0_run_67
  rw [if_neg (show ¬ ((70 : Int32) = 1) by decide), if_neg (show ¬ ((70 : Int32) = 2) by decide), if_neg (show ¬ ((70 : Int32) = 10) by decide), if_neg (show ¬ ((70 : Int32) = 11) by decide), if_neg (show ¬ ((70 : Int32) = 20) by decide), if_neg (show ¬ ((70 : Int32) = 30) by decide), if_neg (show ¬ ((70 : Int32) = 40) by decide), if_neg (show ¬ ((70 : Int32) = 41) by decide), if_neg (show ¬ ((70 : Int32) = 50) by decide), if_neg (show ¬ ((70 : Int32) = 60) by decide), if_neg (show ¬ ((70 : Int32) = 61) by decide), if_pos (show (70 : Int32) = 70 from rfl)]
theorem W_80 (kR : Int32 → Int32 → Int32 → (Nat → Int32) → Int32 → Int32 → Int32 → Int32 → Option (Int32 × Int32 × (Nat → Int32))) (s k x r : Int32) (tr : Nat → Int32) (u e : Int32) : x0_run_67 kR s k x r tr u e 80 = ((kR (r + 1) s k tr 1 u x e).bind fun o13 => (kR o13.2.1 s k o13.2.2 2 k 2 e).bind fun o14 => some ((o13.1 + o14.1), o14.2.1, o14.2.2)) := by
  unfold x0_run_67
  rw [if_neg (show ¬ ((80 : Int32) = 1) by decide), if_neg (show ¬ ((80 : Int32) = 2) by decide), if_neg (show ¬ ((80 : Int32) = 10) by decide), if_neg (show ¬ ((80 : Int32) = 11) by decide), if_neg (show ¬ ((80 : Int32) = 20) by decide), if_neg (show ¬ ((80 : Int32) = 30) by decide), if_neg (show ¬ ((80 : Int32) = 40) by decide), if_neg (show ¬ ((80 : Int32) = 41) by decide), if_neg (show ¬ ((80 : Int32) = 50) by decide), if_neg (show ¬ ((80 : Int32) = 60) by decide), if_neg (show ¬ ((80 : Int32) = 61) by decide), if_neg (show ¬ ((80 : Int32) = 70) by decide), if_pos (show (80 : Int32) = 80 from rfl)]
theorem W_81 (kR : Int32 → Int32 → Int32 → (Nat → Int32) → Int32 → Int32 → Int32 → Int32 → Option (Int32 × Int32 × (Nat → Int32))) (s k x r : Int32) (tr : Nat → Int32) (u e : Int32) : x0_run_67 kR s k x r tr u e 81 = ((kR (r + 1) s k tr 0 u x e).bind fun o15 => some ((o15.1 - 1), o15.2.1, o15.2.2)) := by
  unfold x0_run_67
  rw [if_neg (show ¬ ((81 : Int32) = 1) by decide), if_neg (show ¬ ((81 : Int32) = 2) by decide), if_neg (show ¬ ((81 : Int32) = 10) by decide), if_neg (show ¬ ((81 : Int32) = 11) by decide), if_neg (show ¬ ((81 : Int32) = 20) by decide), if_neg (show ¬ ((81 : Int32) = 30) by decide), if_neg (show ¬ ((81 : Int32) = 40) by decide), if_neg (show ¬ ((81 : Int32) = 41) by decide), if_neg (show ¬ ((81 : Int32) = 50) by decide), if_neg (show ¬ ((81 : Int32) = 60) by decide), if_neg (show ¬ ((81 : Int32) = 61) by decide), if_neg (show ¬ ((81 : Int32) = 70) by decide), if_neg (show ¬ ((81 : Int32) = 80) by decide), if_pos (show (81 : Int32) = 81 from rfl)]
theorem runsI {r : Nat} (hr : r < 24) (tr : Nat → Int32) (w : Int32) : x9_runs (I r) tr w = some (I (r + 1), upd tr r w) := by
  unfold x9_runs
  rw [if_neg (by show ¬ (I 24 ≤ I r); rw [I_le (by omega) (by omega)]; omega), I_inB (by omega), decide_eq_true hr, bif_t, I_clamp (by omega), I_succ]
theorem eq_01 : ((0 : Int32) = 1) = False := by exact eq_false (by decide)
theorem eq_02 : ((0 : Int32) = 2) = False := by exact eq_false (by decide)
theorem eq_03 : ((0 : Int32) = 3) = False := by exact eq_false (by decide)
theorem eq_04 : ((0 : Int32) = 4) = False := by exact eq_false (by decide)
theorem eq_05 : ((0 : Int32) = 5) = False := by exact eq_false (by decide)
theorem eq_06 : ((0 : Int32) = 6) = False := by exact eq_false (by decide)
theorem eq_07 : ((0 : Int32) = 7) = False := by exact eq_false (by decide)
theorem act_00 {n : Int32} (hn : inB n 50 = true) {kind : Nat → Int32} (hk : kind n.toNatClampNeg = 0) (x : Int32) (tr : Nat → Int32) : x0_runR 64 (I 0) n 0 tr 0 0 x (I 0) = x9_standsAct (I 0) kind tr n x ∧ ∃ v r tr', r < 24 ∧ x9_standsAct (I 0) kind tr n x = some (v, I r, tr') := by
  constructor
  · simp (disch := omega) only [R_00, R_01, R_02, R_03, R_04, R_05, R_06, R_07, R_10, R_11, R_12, R_13, R_14, R_15, R_16, R_17, R_20, R_21, R_22, R_23, R_24, R_25, R_26, R_27, R_30, R_31, R_32, R_33, R_34, R_35, R_36, R_37, W_1, W_2, W_10, W_11, W_20, W_30, W_40, W_41, W_50, W_60, W_61, W_70, W_80, W_81, x9_standsAct, x9_standsAct_48, x9_standsAct_85, x9_goodStands, x9_plainStands, x9_ridesAct, x9_ridesAct_40, x9_ridesAct_77, x9_plainRides, x9_plainStops, x9_askingStops, x9_stopsAct, x9_stopsAct_44, x9_stopsAct_87, x9_plainChooses, x9_choosesAct, x9_choosesAct_32, runsI, Option.bind_some, I_succ, bif_t, hn, hk, eq_01, eq_02, eq_03, eq_04, eq_05, eq_06, eq_07, if_true, if_false, ite_true, ite_false]
  · simp (disch := omega) only [x9_standsAct, x9_standsAct_48, x9_standsAct_85, x9_goodStands, x9_plainStands, x9_ridesAct, x9_ridesAct_40, x9_ridesAct_77, x9_plainRides, x9_plainStops, x9_askingStops, x9_stopsAct, x9_stopsAct_44, x9_stopsAct_87, x9_plainChooses, x9_choosesAct, x9_choosesAct_32, runsI, Option.bind_some, I_succ, bif_t, hn, hk, eq_01, eq_02, eq_03, eq_04, eq_05, eq_06, eq_07, if_true, if_false, ite_true, ite_false]
    refine ⟨_, _, _, ?_, rfl⟩
    omega
theorem act_10 {n : Int32} (hn : inB n 50 = true) {kind : Nat → Int32} (hk : kind n.toNatClampNeg = 0) (x : Int32) (tr : Nat → Int32) : x0_runR 64 (I 0) n 0 tr 1 0 x (I 0) = x9_stopsAct (I 0) kind tr n x ∧ ∃ v r tr', r < 24 ∧ x9_stopsAct (I 0) kind tr n x = some (v, I r, tr') := by
  constructor
  · simp (disch := omega) only [R_00, R_01, R_02, R_03, R_04, R_05, R_06, R_07, R_10, R_11, R_12, R_13, R_14, R_15, R_16, R_17, R_20, R_21, R_22, R_23, R_24, R_25, R_26, R_27, R_30, R_31, R_32, R_33, R_34, R_35, R_36, R_37, W_1, W_2, W_10, W_11, W_20, W_30, W_40, W_41, W_50, W_60, W_61, W_70, W_80, W_81, x9_standsAct, x9_standsAct_48, x9_standsAct_85, x9_goodStands, x9_plainStands, x9_ridesAct, x9_ridesAct_40, x9_ridesAct_77, x9_plainRides, x9_plainStops, x9_askingStops, x9_stopsAct, x9_stopsAct_44, x9_stopsAct_87, x9_plainChooses, x9_choosesAct, x9_choosesAct_32, runsI, Option.bind_some, I_succ, bif_t, hn, hk, eq_01, eq_02, eq_03, eq_04, eq_05, eq_06, eq_07, if_true, if_false, ite_true, ite_false]
  · simp (disch := omega) only [x9_standsAct, x9_standsAct_48, x9_standsAct_85, x9_goodStands, x9_plainStands, x9_ridesAct, x9_ridesAct_40, x9_ridesAct_77, x9_plainRides, x9_plainStops, x9_askingStops, x9_stopsAct, x9_stopsAct_44, x9_stopsAct_87, x9_plainChooses, x9_choosesAct, x9_choosesAct_32, runsI, Option.bind_some, I_succ, bif_t, hn, hk, eq_01, eq_02, eq_03, eq_04, eq_05, eq_06, eq_07, if_true, if_false, ite_true, ite_false]
    refine ⟨_, _, _, ?_, rfl⟩
    omega
theorem act_20 {n : Int32} (hn : inB n 50 = true) {kind : Nat → Int32} (hk : kind n.toNatClampNeg = 0) (x : Int32) (tr : Nat → Int32) : x0_runR 64 (I 0) n 0 tr 2 0 x (I 0) = x9_ridesAct (I 0) kind tr n x ∧ ∃ v r tr', r < 24 ∧ x9_ridesAct (I 0) kind tr n x = some (v, I r, tr') := by
  constructor
  · simp (disch := omega) only [R_00, R_01, R_02, R_03, R_04, R_05, R_06, R_07, R_10, R_11, R_12, R_13, R_14, R_15, R_16, R_17, R_20, R_21, R_22, R_23, R_24, R_25, R_26, R_27, R_30, R_31, R_32, R_33, R_34, R_35, R_36, R_37, W_1, W_2, W_10, W_11, W_20, W_30, W_40, W_41, W_50, W_60, W_61, W_70, W_80, W_81, x9_standsAct, x9_standsAct_48, x9_standsAct_85, x9_goodStands, x9_plainStands, x9_ridesAct, x9_ridesAct_40, x9_ridesAct_77, x9_plainRides, x9_plainStops, x9_askingStops, x9_stopsAct, x9_stopsAct_44, x9_stopsAct_87, x9_plainChooses, x9_choosesAct, x9_choosesAct_32, runsI, Option.bind_some, I_succ, bif_t, hn, hk, eq_01, eq_02, eq_03, eq_04, eq_05, eq_06, eq_07, if_true, if_false, ite_true, ite_false]
  · simp (disch := omega) only [x9_standsAct, x9_standsAct_48, x9_standsAct_85, x9_goodStands, x9_plainStands, x9_ridesAct, x9_ridesAct_40, x9_ridesAct_77, x9_plainRides, x9_plainStops, x9_askingStops, x9_stopsAct, x9_stopsAct_44, x9_stopsAct_87, x9_plainChooses, x9_choosesAct, x9_choosesAct_32, runsI, Option.bind_some, I_succ, bif_t, hn, hk, eq_01, eq_02, eq_03, eq_04, eq_05, eq_06, eq_07, if_true, if_false, ite_true, ite_false]
    refine ⟨_, _, _, ?_, rfl⟩
    omega
theorem act_30 {n : Int32} (hn : inB n 50 = true) {kind : Nat → Int32} (hk : kind n.toNatClampNeg = 0) (x : Int32) (tr : Nat → Int32) : x0_runR 64 (I 0) n 0 tr 3 0 x (I 0) = x9_choosesAct (I 0) kind tr n x ∧ ∃ v r tr', r < 24 ∧ x9_choosesAct (I 0) kind tr n x = some (v, I r, tr') := by
  have em : ∃ v r tr2, r < 24 ∧ x9_choosesAct (I 0) kind tr n x = some (v, I r, tr2) ∧ x0_runR 64 (I 0) n 0 tr 3 0 x (I 0) = some (v, I r, tr2) := by
    try simp (disch := omega) only [x9_choosesAct, hn, hk, eq_01, eq_02, eq_03, eq_04, eq_05, eq_06, eq_07, bif_t, if_true, if_false, ite_true, ite_false]
    try simp (disch := omega) only [x9_choosesAct_32, x9_plainChooses, runsI, Option.bind_some]
    try simp (disch := omega) only [x9_stopsAct, hn, hk, eq_01, eq_02, eq_03, eq_04, eq_05, eq_06, eq_07, bif_t, if_true, if_false, ite_true, ite_false]
    try simp (disch := omega) only [x9_stopsAct_44, x9_stopsAct_87, x9_askingStops, x9_plainStops, runsI, Option.bind_some]
    try simp (disch := omega) only [x9_standsAct, hn, hk, eq_01, eq_02, eq_03, eq_04, eq_05, eq_06, eq_07, bif_t, if_true, if_false, ite_true, ite_false]
    try simp (disch := omega) only [x9_standsAct_48, x9_standsAct_85, x9_goodStands, x9_plainStands, runsI, Option.bind_some]
    try simp (disch := omega) only [x9_ridesAct, hn, hk, eq_01, eq_02, eq_03, eq_04, eq_05, eq_06, eq_07, bif_t, if_true, if_false, ite_true, ite_false]
    try simp (disch := omega) only [x9_ridesAct_40, x9_ridesAct_77, x9_plainRides, runsI, Option.bind_some]
    try simp (disch := omega) only [x9_standsAct, hn, hk, eq_01, eq_02, eq_03, eq_04, eq_05, eq_06, eq_07, bif_t, if_true, if_false, ite_true, ite_false]
    try simp (disch := omega) only [x9_standsAct_48, x9_standsAct_85, x9_goodStands, x9_plainStands, runsI, Option.bind_some, I_succ]
    simp (disch := omega) only [R_00, R_01, R_02, R_03, R_04, R_05, R_06, R_07, R_10, R_11, R_12, R_13, R_14, R_15, R_16, R_17, R_20, R_21, R_22, R_23, R_24, R_25, R_26, R_27, R_30, R_31, R_32, R_33, R_34, R_35, R_36, R_37, W_1, W_2, W_10, W_11, W_20, W_30, W_40, W_41, W_50, W_60, W_61, W_70, W_80, W_81, Option.bind_some, I_succ]
    refine ⟨_, _, _, ?_, rfl, rfl⟩
    omega
  obtain ⟨v, r, tr2, h1, h2, h3⟩ := em
  exact ⟨h3.trans h2.symm, v, r, tr2, h1, h2⟩

theorem eq_11 : ((1 : Int32) = 1) = True := by exact eq_self _
theorem eq_12 : ((1 : Int32) = 2) = False := by exact eq_false (by decide)
theorem eq_13 : ((1 : Int32) = 3) = False := by exact eq_false (by decide)
theorem eq_14 : ((1 : Int32) = 4) = False := by exact eq_false (by decide)
theorem eq_15 : ((1 : Int32) = 5) = False := by exact eq_false (by decide)
theorem eq_16 : ((1 : Int32) = 6) = False := by exact eq_false (by decide)
theorem eq_17 : ((1 : Int32) = 7) = False := by exact eq_false (by decide)
theorem act_01 {n : Int32} (hn : inB n 50 = true) {kind : Nat → Int32} (hk : kind n.toNatClampNeg = 1) (x : Int32) (tr : Nat → Int32) : x0_runR 64 (I 0) n 1 tr 0 1 x (I 0) = x9_standsAct (I 0) kind tr n x ∧ ∃ v r tr', r < 24 ∧ x9_standsAct (I 0) kind tr n x = some (v, I r, tr') := by
  constructor
  · simp (disch := omega) only [R_00, R_01, R_02, R_03, R_04, R_05, R_06, R_07, R_10, R_11, R_12, R_13, R_14, R_15, R_16, R_17, R_20, R_21, R_22, R_23, R_24, R_25, R_26, R_27, R_30, R_31, R_32, R_33, R_34, R_35, R_36, R_37, W_1, W_2, W_10, W_11, W_20, W_30, W_40, W_41, W_50, W_60, W_61, W_70, W_80, W_81, x9_standsAct, x9_standsAct_48, x9_standsAct_85, x9_goodStands, x9_plainStands, x9_ridesAct, x9_ridesAct_40, x9_ridesAct_77, x9_plainRides, x9_plainStops, x9_askingStops, x9_stopsAct, x9_stopsAct_44, x9_stopsAct_87, x9_plainChooses, x9_choosesAct, x9_choosesAct_32, runsI, Option.bind_some, I_succ, bif_t, hn, hk, eq_11, eq_12, eq_13, eq_14, eq_15, eq_16, eq_17, if_true, if_false, ite_true, ite_false]
  · simp (disch := omega) only [x9_standsAct, x9_standsAct_48, x9_standsAct_85, x9_goodStands, x9_plainStands, x9_ridesAct, x9_ridesAct_40, x9_ridesAct_77, x9_plainRides, x9_plainStops, x9_askingStops, x9_stopsAct, x9_stopsAct_44, x9_stopsAct_87, x9_plainChooses, x9_choosesAct, x9_choosesAct_32, runsI, Option.bind_some, I_succ, bif_t, hn, hk, eq_11, eq_12, eq_13, eq_14, eq_15, eq_16, eq_17, if_true, if_false, ite_true, ite_false]
    refine ⟨_, _, _, ?_, rfl⟩
    omega
theorem act_11 {n : Int32} (hn : inB n 50 = true) {kind : Nat → Int32} (hk : kind n.toNatClampNeg = 1) (x : Int32) (tr : Nat → Int32) : x0_runR 64 (I 0) n 1 tr 1 1 x (I 0) = x9_stopsAct (I 0) kind tr n x ∧ ∃ v r tr', r < 24 ∧ x9_stopsAct (I 0) kind tr n x = some (v, I r, tr') := by
  constructor
  · simp (disch := omega) only [R_00, R_01, R_02, R_03, R_04, R_05, R_06, R_07, R_10, R_11, R_12, R_13, R_14, R_15, R_16, R_17, R_20, R_21, R_22, R_23, R_24, R_25, R_26, R_27, R_30, R_31, R_32, R_33, R_34, R_35, R_36, R_37, W_1, W_2, W_10, W_11, W_20, W_30, W_40, W_41, W_50, W_60, W_61, W_70, W_80, W_81, x9_standsAct, x9_standsAct_48, x9_standsAct_85, x9_goodStands, x9_plainStands, x9_ridesAct, x9_ridesAct_40, x9_ridesAct_77, x9_plainRides, x9_plainStops, x9_askingStops, x9_stopsAct, x9_stopsAct_44, x9_stopsAct_87, x9_plainChooses, x9_choosesAct, x9_choosesAct_32, runsI, Option.bind_some, I_succ, bif_t, hn, hk, eq_11, eq_12, eq_13, eq_14, eq_15, eq_16, eq_17, if_true, if_false, ite_true, ite_false]
  · simp (disch := omega) only [x9_standsAct, x9_standsAct_48, x9_standsAct_85, x9_goodStands, x9_plainStands, x9_ridesAct, x9_ridesAct_40, x9_ridesAct_77, x9_plainRides, x9_plainStops, x9_askingStops, x9_stopsAct, x9_stopsAct_44, x9_stopsAct_87, x9_plainChooses, x9_choosesAct, x9_choosesAct_32, runsI, Option.bind_some, I_succ, bif_t, hn, hk, eq_11, eq_12, eq_13, eq_14, eq_15, eq_16, eq_17, if_true, if_false, ite_true, ite_false]
    refine ⟨_, _, _, ?_, rfl⟩
    omega
theorem act_21 {n : Int32} (hn : inB n 50 = true) {kind : Nat → Int32} (hk : kind n.toNatClampNeg = 1) (x : Int32) (tr : Nat → Int32) : x0_runR 64 (I 0) n 1 tr 2 1 x (I 0) = x9_ridesAct (I 0) kind tr n x ∧ ∃ v r tr', r < 24 ∧ x9_ridesAct (I 0) kind tr n x = some (v, I r, tr') := by
  constructor
  · simp (disch := omega) only [R_00, R_01, R_02, R_03, R_04, R_05, R_06, R_07, R_10, R_11, R_12, R_13, R_14, R_15, R_16, R_17, R_20, R_21, R_22, R_23, R_24, R_25, R_26, R_27, R_30, R_31, R_32, R_33, R_34, R_35, R_36, R_37, W_1, W_2, W_10, W_11, W_20, W_30, W_40, W_41, W_50, W_60, W_61, W_70, W_80, W_81, x9_standsAct, x9_standsAct_48, x9_standsAct_85, x9_goodStands, x9_plainStands, x9_ridesAct, x9_ridesAct_40, x9_ridesAct_77, x9_plainRides, x9_plainStops, x9_askingStops, x9_stopsAct, x9_stopsAct_44, x9_stopsAct_87, x9_plainChooses, x9_choosesAct, x9_choosesAct_32, runsI, Option.bind_some, I_succ, bif_t, hn, hk, eq_11, eq_12, eq_13, eq_14, eq_15, eq_16, eq_17, if_true, if_false, ite_true, ite_false]
  · simp (disch := omega) only [x9_standsAct, x9_standsAct_48, x9_standsAct_85, x9_goodStands, x9_plainStands, x9_ridesAct, x9_ridesAct_40, x9_ridesAct_77, x9_plainRides, x9_plainStops, x9_askingStops, x9_stopsAct, x9_stopsAct_44, x9_stopsAct_87, x9_plainChooses, x9_choosesAct, x9_choosesAct_32, runsI, Option.bind_some, I_succ, bif_t, hn, hk, eq_11, eq_12, eq_13, eq_14, eq_15, eq_16, eq_17, if_true, if_false, ite_true, ite_false]
    refine ⟨_, _, _, ?_, rfl⟩
    omega
theorem act_31 {n : Int32} (hn : inB n 50 = true) {kind : Nat → Int32} (hk : kind n.toNatClampNeg = 1) (x : Int32) (tr : Nat → Int32) : x0_runR 64 (I 0) n 1 tr 3 1 x (I 0) = x9_choosesAct (I 0) kind tr n x ∧ ∃ v r tr', r < 24 ∧ x9_choosesAct (I 0) kind tr n x = some (v, I r, tr') := by
  have em : ∃ v r tr2, r < 24 ∧ x9_choosesAct (I 0) kind tr n x = some (v, I r, tr2) ∧ x0_runR 64 (I 0) n 1 tr 3 1 x (I 0) = some (v, I r, tr2) := by
    try simp (disch := omega) only [x9_choosesAct, hn, hk, eq_11, eq_12, eq_13, eq_14, eq_15, eq_16, eq_17, bif_t, if_true, if_false, ite_true, ite_false]
    try simp (disch := omega) only [x9_choosesAct_32, x9_plainChooses, runsI, Option.bind_some]
    try simp (disch := omega) only [x9_stopsAct, hn, hk, eq_11, eq_12, eq_13, eq_14, eq_15, eq_16, eq_17, bif_t, if_true, if_false, ite_true, ite_false]
    try simp (disch := omega) only [x9_stopsAct_44, x9_stopsAct_87, x9_askingStops, x9_plainStops, runsI, Option.bind_some]
    try simp (disch := omega) only [x9_standsAct, hn, hk, eq_11, eq_12, eq_13, eq_14, eq_15, eq_16, eq_17, bif_t, if_true, if_false, ite_true, ite_false]
    try simp (disch := omega) only [x9_standsAct_48, x9_standsAct_85, x9_goodStands, x9_plainStands, runsI, Option.bind_some]
    try simp (disch := omega) only [x9_ridesAct, hn, hk, eq_11, eq_12, eq_13, eq_14, eq_15, eq_16, eq_17, bif_t, if_true, if_false, ite_true, ite_false]
    try simp (disch := omega) only [x9_ridesAct_40, x9_ridesAct_77, x9_plainRides, runsI, Option.bind_some]
    try simp (disch := omega) only [x9_standsAct, hn, hk, eq_11, eq_12, eq_13, eq_14, eq_15, eq_16, eq_17, bif_t, if_true, if_false, ite_true, ite_false]
    try simp (disch := omega) only [x9_standsAct_48, x9_standsAct_85, x9_goodStands, x9_plainStands, runsI, Option.bind_some, I_succ]
    simp (disch := omega) only [R_00, R_01, R_02, R_03, R_04, R_05, R_06, R_07, R_10, R_11, R_12, R_13, R_14, R_15, R_16, R_17, R_20, R_21, R_22, R_23, R_24, R_25, R_26, R_27, R_30, R_31, R_32, R_33, R_34, R_35, R_36, R_37, W_1, W_2, W_10, W_11, W_20, W_30, W_40, W_41, W_50, W_60, W_61, W_70, W_80, W_81, Option.bind_some, I_succ]
    refine ⟨_, _, _, ?_, rfl, rfl⟩
    omega
  obtain ⟨v, r, tr2, h1, h2, h3⟩ := em
  exact ⟨h3.trans h2.symm, v, r, tr2, h1, h2⟩

theorem eq_21 : ((2 : Int32) = 1) = False := by exact eq_false (by decide)
theorem eq_22 : ((2 : Int32) = 2) = True := by exact eq_self _
theorem eq_23 : ((2 : Int32) = 3) = False := by exact eq_false (by decide)
theorem eq_24 : ((2 : Int32) = 4) = False := by exact eq_false (by decide)
theorem eq_25 : ((2 : Int32) = 5) = False := by exact eq_false (by decide)
theorem eq_26 : ((2 : Int32) = 6) = False := by exact eq_false (by decide)
theorem eq_27 : ((2 : Int32) = 7) = False := by exact eq_false (by decide)
theorem act_02 {n : Int32} (hn : inB n 50 = true) {kind : Nat → Int32} (hk : kind n.toNatClampNeg = 2) (x : Int32) (tr : Nat → Int32) : x0_runR 64 (I 0) n 2 tr 0 2 x (I 0) = x9_standsAct (I 0) kind tr n x ∧ ∃ v r tr', r < 24 ∧ x9_standsAct (I 0) kind tr n x = some (v, I r, tr') := by
  constructor
  · simp (disch := omega) only [R_00, R_01, R_02, R_03, R_04, R_05, R_06, R_07, R_10, R_11, R_12, R_13, R_14, R_15, R_16, R_17, R_20, R_21, R_22, R_23, R_24, R_25, R_26, R_27, R_30, R_31, R_32, R_33, R_34, R_35, R_36, R_37, W_1, W_2, W_10, W_11, W_20, W_30, W_40, W_41, W_50, W_60, W_61, W_70, W_80, W_81, x9_standsAct, x9_standsAct_48, x9_standsAct_85, x9_goodStands, x9_plainStands, x9_ridesAct, x9_ridesAct_40, x9_ridesAct_77, x9_plainRides, x9_plainStops, x9_askingStops, x9_stopsAct, x9_stopsAct_44, x9_stopsAct_87, x9_plainChooses, x9_choosesAct, x9_choosesAct_32, runsI, Option.bind_some, I_succ, bif_t, hn, hk, eq_21, eq_22, eq_23, eq_24, eq_25, eq_26, eq_27, if_true, if_false, ite_true, ite_false]
  · simp (disch := omega) only [x9_standsAct, x9_standsAct_48, x9_standsAct_85, x9_goodStands, x9_plainStands, x9_ridesAct, x9_ridesAct_40, x9_ridesAct_77, x9_plainRides, x9_plainStops, x9_askingStops, x9_stopsAct, x9_stopsAct_44, x9_stopsAct_87, x9_plainChooses, x9_choosesAct, x9_choosesAct_32, runsI, Option.bind_some, I_succ, bif_t, hn, hk, eq_21, eq_22, eq_23, eq_24, eq_25, eq_26, eq_27, if_true, if_false, ite_true, ite_false]
    refine ⟨_, _, _, ?_, rfl⟩
    omega
theorem act_12 {n : Int32} (hn : inB n 50 = true) {kind : Nat → Int32} (hk : kind n.toNatClampNeg = 2) (x : Int32) (tr : Nat → Int32) : x0_runR 64 (I 0) n 2 tr 1 2 x (I 0) = x9_stopsAct (I 0) kind tr n x ∧ ∃ v r tr', r < 24 ∧ x9_stopsAct (I 0) kind tr n x = some (v, I r, tr') := by
  constructor
  · simp (disch := omega) only [R_00, R_01, R_02, R_03, R_04, R_05, R_06, R_07, R_10, R_11, R_12, R_13, R_14, R_15, R_16, R_17, R_20, R_21, R_22, R_23, R_24, R_25, R_26, R_27, R_30, R_31, R_32, R_33, R_34, R_35, R_36, R_37, W_1, W_2, W_10, W_11, W_20, W_30, W_40, W_41, W_50, W_60, W_61, W_70, W_80, W_81, x9_standsAct, x9_standsAct_48, x9_standsAct_85, x9_goodStands, x9_plainStands, x9_ridesAct, x9_ridesAct_40, x9_ridesAct_77, x9_plainRides, x9_plainStops, x9_askingStops, x9_stopsAct, x9_stopsAct_44, x9_stopsAct_87, x9_plainChooses, x9_choosesAct, x9_choosesAct_32, runsI, Option.bind_some, I_succ, bif_t, hn, hk, eq_21, eq_22, eq_23, eq_24, eq_25, eq_26, eq_27, if_true, if_false, ite_true, ite_false]
  · simp (disch := omega) only [x9_standsAct, x9_standsAct_48, x9_standsAct_85, x9_goodStands, x9_plainStands, x9_ridesAct, x9_ridesAct_40, x9_ridesAct_77, x9_plainRides, x9_plainStops, x9_askingStops, x9_stopsAct, x9_stopsAct_44, x9_stopsAct_87, x9_plainChooses, x9_choosesAct, x9_choosesAct_32, runsI, Option.bind_some, I_succ, bif_t, hn, hk, eq_21, eq_22, eq_23, eq_24, eq_25, eq_26, eq_27, if_true, if_false, ite_true, ite_false]
    refine ⟨_, _, _, ?_, rfl⟩
    omega
theorem act_22 {n : Int32} (hn : inB n 50 = true) {kind : Nat → Int32} (hk : kind n.toNatClampNeg = 2) (x : Int32) (tr : Nat → Int32) : x0_runR 64 (I 0) n 2 tr 2 2 x (I 0) = x9_ridesAct (I 0) kind tr n x ∧ ∃ v r tr', r < 24 ∧ x9_ridesAct (I 0) kind tr n x = some (v, I r, tr') := by
  constructor
  · simp (disch := omega) only [R_00, R_01, R_02, R_03, R_04, R_05, R_06, R_07, R_10, R_11, R_12, R_13, R_14, R_15, R_16, R_17, R_20, R_21, R_22, R_23, R_24, R_25, R_26, R_27, R_30, R_31, R_32, R_33, R_34, R_35, R_36, R_37, W_1, W_2, W_10, W_11, W_20, W_30, W_40, W_41, W_50, W_60, W_61, W_70, W_80, W_81, x9_standsAct, x9_standsAct_48, x9_standsAct_85, x9_goodStands, x9_plainStands, x9_ridesAct, x9_ridesAct_40, x9_ridesAct_77, x9_plainRides, x9_plainStops, x9_askingStops, x9_stopsAct, x9_stopsAct_44, x9_stopsAct_87, x9_plainChooses, x9_choosesAct, x9_choosesAct_32, runsI, Option.bind_some, I_succ, bif_t, hn, hk, eq_21, eq_22, eq_23, eq_24, eq_25, eq_26, eq_27, if_true, if_false, ite_true, ite_false]
  · simp (disch := omega) only [x9_standsAct, x9_standsAct_48, x9_standsAct_85, x9_goodStands, x9_plainStands, x9_ridesAct, x9_ridesAct_40, x9_ridesAct_77, x9_plainRides, x9_plainStops, x9_askingStops, x9_stopsAct, x9_stopsAct_44, x9_stopsAct_87, x9_plainChooses, x9_choosesAct, x9_choosesAct_32, runsI, Option.bind_some, I_succ, bif_t, hn, hk, eq_21, eq_22, eq_23, eq_24, eq_25, eq_26, eq_27, if_true, if_false, ite_true, ite_false]
    refine ⟨_, _, _, ?_, rfl⟩
    omega
theorem act_32 {n : Int32} (hn : inB n 50 = true) {kind : Nat → Int32} (hk : kind n.toNatClampNeg = 2) (x : Int32) (tr : Nat → Int32) : x0_runR 64 (I 0) n 2 tr 3 2 x (I 0) = x9_choosesAct (I 0) kind tr n x ∧ ∃ v r tr', r < 24 ∧ x9_choosesAct (I 0) kind tr n x = some (v, I r, tr') := by
  have em : ∃ v r tr2, r < 24 ∧ x9_choosesAct (I 0) kind tr n x = some (v, I r, tr2) ∧ x0_runR 64 (I 0) n 2 tr 3 2 x (I 0) = some (v, I r, tr2) := by
    try simp (disch := omega) only [x9_choosesAct, hn, hk, eq_21, eq_22, eq_23, eq_24, eq_25, eq_26, eq_27, bif_t, if_true, if_false, ite_true, ite_false]
    try simp (disch := omega) only [x9_choosesAct_32, x9_plainChooses, runsI, Option.bind_some]
    try simp (disch := omega) only [x9_stopsAct, hn, hk, eq_21, eq_22, eq_23, eq_24, eq_25, eq_26, eq_27, bif_t, if_true, if_false, ite_true, ite_false]
    try simp (disch := omega) only [x9_stopsAct_44, x9_stopsAct_87, x9_askingStops, x9_plainStops, runsI, Option.bind_some]
    try simp (disch := omega) only [x9_standsAct, hn, hk, eq_21, eq_22, eq_23, eq_24, eq_25, eq_26, eq_27, bif_t, if_true, if_false, ite_true, ite_false]
    try simp (disch := omega) only [x9_standsAct_48, x9_standsAct_85, x9_goodStands, x9_plainStands, runsI, Option.bind_some]
    try simp (disch := omega) only [x9_ridesAct, hn, hk, eq_21, eq_22, eq_23, eq_24, eq_25, eq_26, eq_27, bif_t, if_true, if_false, ite_true, ite_false]
    try simp (disch := omega) only [x9_ridesAct_40, x9_ridesAct_77, x9_plainRides, runsI, Option.bind_some]
    try simp (disch := omega) only [x9_standsAct, hn, hk, eq_21, eq_22, eq_23, eq_24, eq_25, eq_26, eq_27, bif_t, if_true, if_false, ite_true, ite_false]
    try simp (disch := omega) only [x9_standsAct_48, x9_standsAct_85, x9_goodStands, x9_plainStands, runsI, Option.bind_some, I_succ]
    simp (disch := omega) only [R_00, R_01, R_02, R_03, R_04, R_05, R_06, R_07, R_10, R_11, R_12, R_13, R_14, R_15, R_16, R_17, R_20, R_21, R_22, R_23, R_24, R_25, R_26, R_27, R_30, R_31, R_32, R_33, R_34, R_35, R_36, R_37, W_1, W_2, W_10, W_11, W_20, W_30, W_40, W_41, W_50, W_60, W_61, W_70, W_80, W_81, Option.bind_some, I_succ]
    refine ⟨_, _, _, ?_, rfl, rfl⟩
    omega
  obtain ⟨v, r, tr2, h1, h2, h3⟩ := em
  exact ⟨h3.trans h2.symm, v, r, tr2, h1, h2⟩

theorem eq_31 : ((3 : Int32) = 1) = False := by exact eq_false (by decide)
theorem eq_32 : ((3 : Int32) = 2) = False := by exact eq_false (by decide)
theorem eq_33 : ((3 : Int32) = 3) = True := by exact eq_self _
theorem eq_34 : ((3 : Int32) = 4) = False := by exact eq_false (by decide)
theorem eq_35 : ((3 : Int32) = 5) = False := by exact eq_false (by decide)
theorem eq_36 : ((3 : Int32) = 6) = False := by exact eq_false (by decide)
theorem eq_37 : ((3 : Int32) = 7) = False := by exact eq_false (by decide)
theorem act_03 {n : Int32} (hn : inB n 50 = true) {kind : Nat → Int32} (hk : kind n.toNatClampNeg = 3) (x : Int32) (tr : Nat → Int32) : x0_runR 64 (I 0) n 3 tr 0 3 x (I 0) = x9_standsAct (I 0) kind tr n x ∧ ∃ v r tr', r < 24 ∧ x9_standsAct (I 0) kind tr n x = some (v, I r, tr') := by
  constructor
  · simp (disch := omega) only [R_00, R_01, R_02, R_03, R_04, R_05, R_06, R_07, R_10, R_11, R_12, R_13, R_14, R_15, R_16, R_17, R_20, R_21, R_22, R_23, R_24, R_25, R_26, R_27, R_30, R_31, R_32, R_33, R_34, R_35, R_36, R_37, W_1, W_2, W_10, W_11, W_20, W_30, W_40, W_41, W_50, W_60, W_61, W_70, W_80, W_81, x9_standsAct, x9_standsAct_48, x9_standsAct_85, x9_goodStands, x9_plainStands, x9_ridesAct, x9_ridesAct_40, x9_ridesAct_77, x9_plainRides, x9_plainStops, x9_askingStops, x9_stopsAct, x9_stopsAct_44, x9_stopsAct_87, x9_plainChooses, x9_choosesAct, x9_choosesAct_32, runsI, Option.bind_some, I_succ, bif_t, hn, hk, eq_31, eq_32, eq_33, eq_34, eq_35, eq_36, eq_37, if_true, if_false, ite_true, ite_false]
  · simp (disch := omega) only [x9_standsAct, x9_standsAct_48, x9_standsAct_85, x9_goodStands, x9_plainStands, x9_ridesAct, x9_ridesAct_40, x9_ridesAct_77, x9_plainRides, x9_plainStops, x9_askingStops, x9_stopsAct, x9_stopsAct_44, x9_stopsAct_87, x9_plainChooses, x9_choosesAct, x9_choosesAct_32, runsI, Option.bind_some, I_succ, bif_t, hn, hk, eq_31, eq_32, eq_33, eq_34, eq_35, eq_36, eq_37, if_true, if_false, ite_true, ite_false]
    refine ⟨_, _, _, ?_, rfl⟩
    omega
theorem act_13 {n : Int32} (hn : inB n 50 = true) {kind : Nat → Int32} (hk : kind n.toNatClampNeg = 3) (x : Int32) (tr : Nat → Int32) : x0_runR 64 (I 0) n 3 tr 1 3 x (I 0) = x9_stopsAct (I 0) kind tr n x ∧ ∃ v r tr', r < 24 ∧ x9_stopsAct (I 0) kind tr n x = some (v, I r, tr') := by
  constructor
  · simp (disch := omega) only [R_00, R_01, R_02, R_03, R_04, R_05, R_06, R_07, R_10, R_11, R_12, R_13, R_14, R_15, R_16, R_17, R_20, R_21, R_22, R_23, R_24, R_25, R_26, R_27, R_30, R_31, R_32, R_33, R_34, R_35, R_36, R_37, W_1, W_2, W_10, W_11, W_20, W_30, W_40, W_41, W_50, W_60, W_61, W_70, W_80, W_81, x9_standsAct, x9_standsAct_48, x9_standsAct_85, x9_goodStands, x9_plainStands, x9_ridesAct, x9_ridesAct_40, x9_ridesAct_77, x9_plainRides, x9_plainStops, x9_askingStops, x9_stopsAct, x9_stopsAct_44, x9_stopsAct_87, x9_plainChooses, x9_choosesAct, x9_choosesAct_32, runsI, Option.bind_some, I_succ, bif_t, hn, hk, eq_31, eq_32, eq_33, eq_34, eq_35, eq_36, eq_37, if_true, if_false, ite_true, ite_false]
  · simp (disch := omega) only [x9_standsAct, x9_standsAct_48, x9_standsAct_85, x9_goodStands, x9_plainStands, x9_ridesAct, x9_ridesAct_40, x9_ridesAct_77, x9_plainRides, x9_plainStops, x9_askingStops, x9_stopsAct, x9_stopsAct_44, x9_stopsAct_87, x9_plainChooses, x9_choosesAct, x9_choosesAct_32, runsI, Option.bind_some, I_succ, bif_t, hn, hk, eq_31, eq_32, eq_33, eq_34, eq_35, eq_36, eq_37, if_true, if_false, ite_true, ite_false]
    refine ⟨_, _, _, ?_, rfl⟩
    omega
theorem act_23 {n : Int32} (hn : inB n 50 = true) {kind : Nat → Int32} (hk : kind n.toNatClampNeg = 3) (x : Int32) (tr : Nat → Int32) : x0_runR 64 (I 0) n 3 tr 2 3 x (I 0) = x9_ridesAct (I 0) kind tr n x ∧ ∃ v r tr', r < 24 ∧ x9_ridesAct (I 0) kind tr n x = some (v, I r, tr') := by
  constructor
  · simp (disch := omega) only [R_00, R_01, R_02, R_03, R_04, R_05, R_06, R_07, R_10, R_11, R_12, R_13, R_14, R_15, R_16, R_17, R_20, R_21, R_22, R_23, R_24, R_25, R_26, R_27, R_30, R_31, R_32, R_33, R_34, R_35, R_36, R_37, W_1, W_2, W_10, W_11, W_20, W_30, W_40, W_41, W_50, W_60, W_61, W_70, W_80, W_81, x9_standsAct, x9_standsAct_48, x9_standsAct_85, x9_goodStands, x9_plainStands, x9_ridesAct, x9_ridesAct_40, x9_ridesAct_77, x9_plainRides, x9_plainStops, x9_askingStops, x9_stopsAct, x9_stopsAct_44, x9_stopsAct_87, x9_plainChooses, x9_choosesAct, x9_choosesAct_32, runsI, Option.bind_some, I_succ, bif_t, hn, hk, eq_31, eq_32, eq_33, eq_34, eq_35, eq_36, eq_37, if_true, if_false, ite_true, ite_false]
  · simp (disch := omega) only [x9_standsAct, x9_standsAct_48, x9_standsAct_85, x9_goodStands, x9_plainStands, x9_ridesAct, x9_ridesAct_40, x9_ridesAct_77, x9_plainRides, x9_plainStops, x9_askingStops, x9_stopsAct, x9_stopsAct_44, x9_stopsAct_87, x9_plainChooses, x9_choosesAct, x9_choosesAct_32, runsI, Option.bind_some, I_succ, bif_t, hn, hk, eq_31, eq_32, eq_33, eq_34, eq_35, eq_36, eq_37, if_true, if_false, ite_true, ite_false]
    refine ⟨_, _, _, ?_, rfl⟩
    omega
theorem act_33 {n : Int32} (hn : inB n 50 = true) {kind : Nat → Int32} (hk : kind n.toNatClampNeg = 3) (x : Int32) (tr : Nat → Int32) : x0_runR 64 (I 0) n 3 tr 3 3 x (I 0) = x9_choosesAct (I 0) kind tr n x ∧ ∃ v r tr', r < 24 ∧ x9_choosesAct (I 0) kind tr n x = some (v, I r, tr') := by
  have em : ∃ v r tr2, r < 24 ∧ x9_choosesAct (I 0) kind tr n x = some (v, I r, tr2) ∧ x0_runR 64 (I 0) n 3 tr 3 3 x (I 0) = some (v, I r, tr2) := by
    try simp (disch := omega) only [x9_choosesAct, hn, hk, eq_31, eq_32, eq_33, eq_34, eq_35, eq_36, eq_37, bif_t, if_true, if_false, ite_true, ite_false]
    try simp (disch := omega) only [x9_choosesAct_32, x9_plainChooses, runsI, Option.bind_some]
    try simp (disch := omega) only [x9_stopsAct, hn, hk, eq_31, eq_32, eq_33, eq_34, eq_35, eq_36, eq_37, bif_t, if_true, if_false, ite_true, ite_false]
    try simp (disch := omega) only [x9_stopsAct_44, x9_stopsAct_87, x9_askingStops, x9_plainStops, runsI, Option.bind_some]
    try simp (disch := omega) only [x9_standsAct, hn, hk, eq_31, eq_32, eq_33, eq_34, eq_35, eq_36, eq_37, bif_t, if_true, if_false, ite_true, ite_false]
    try simp (disch := omega) only [x9_standsAct_48, x9_standsAct_85, x9_goodStands, x9_plainStands, runsI, Option.bind_some]
    try simp (disch := omega) only [x9_ridesAct, hn, hk, eq_31, eq_32, eq_33, eq_34, eq_35, eq_36, eq_37, bif_t, if_true, if_false, ite_true, ite_false]
    try simp (disch := omega) only [x9_ridesAct_40, x9_ridesAct_77, x9_plainRides, runsI, Option.bind_some]
    try simp (disch := omega) only [x9_standsAct, hn, hk, eq_31, eq_32, eq_33, eq_34, eq_35, eq_36, eq_37, bif_t, if_true, if_false, ite_true, ite_false]
    try simp (disch := omega) only [x9_standsAct_48, x9_standsAct_85, x9_goodStands, x9_plainStands, runsI, Option.bind_some, I_succ]
    simp (disch := omega) only [R_00, R_01, R_02, R_03, R_04, R_05, R_06, R_07, R_10, R_11, R_12, R_13, R_14, R_15, R_16, R_17, R_20, R_21, R_22, R_23, R_24, R_25, R_26, R_27, R_30, R_31, R_32, R_33, R_34, R_35, R_36, R_37, W_1, W_2, W_10, W_11, W_20, W_30, W_40, W_41, W_50, W_60, W_61, W_70, W_80, W_81, Option.bind_some, I_succ]
    refine ⟨_, _, _, ?_, rfl, rfl⟩
    omega
  obtain ⟨v, r, tr2, h1, h2, h3⟩ := em
  exact ⟨h3.trans h2.symm, v, r, tr2, h1, h2⟩

theorem eq_41 : ((4 : Int32) = 1) = False := by exact eq_false (by decide)
theorem eq_42 : ((4 : Int32) = 2) = False := by exact eq_false (by decide)
theorem eq_43 : ((4 : Int32) = 3) = False := by exact eq_false (by decide)
theorem eq_44 : ((4 : Int32) = 4) = True := by exact eq_self _
theorem eq_45 : ((4 : Int32) = 5) = False := by exact eq_false (by decide)
theorem eq_46 : ((4 : Int32) = 6) = False := by exact eq_false (by decide)
theorem eq_47 : ((4 : Int32) = 7) = False := by exact eq_false (by decide)
theorem act_04 {n : Int32} (hn : inB n 50 = true) {kind : Nat → Int32} (hk : kind n.toNatClampNeg = 4) (x : Int32) (tr : Nat → Int32) : x0_runR 64 (I 0) n 4 tr 0 4 x (I 0) = x9_standsAct (I 0) kind tr n x ∧ ∃ v r tr', r < 24 ∧ x9_standsAct (I 0) kind tr n x = some (v, I r, tr') := by
  constructor
  · simp (disch := omega) only [R_00, R_01, R_02, R_03, R_04, R_05, R_06, R_07, R_10, R_11, R_12, R_13, R_14, R_15, R_16, R_17, R_20, R_21, R_22, R_23, R_24, R_25, R_26, R_27, R_30, R_31, R_32, R_33, R_34, R_35, R_36, R_37, W_1, W_2, W_10, W_11, W_20, W_30, W_40, W_41, W_50, W_60, W_61, W_70, W_80, W_81, x9_standsAct, x9_standsAct_48, x9_standsAct_85, x9_goodStands, x9_plainStands, x9_ridesAct, x9_ridesAct_40, x9_ridesAct_77, x9_plainRides, x9_plainStops, x9_askingStops, x9_stopsAct, x9_stopsAct_44, x9_stopsAct_87, x9_plainChooses, x9_choosesAct, x9_choosesAct_32, runsI, Option.bind_some, I_succ, bif_t, hn, hk, eq_41, eq_42, eq_43, eq_44, eq_45, eq_46, eq_47, if_true, if_false, ite_true, ite_false]
  · simp (disch := omega) only [x9_standsAct, x9_standsAct_48, x9_standsAct_85, x9_goodStands, x9_plainStands, x9_ridesAct, x9_ridesAct_40, x9_ridesAct_77, x9_plainRides, x9_plainStops, x9_askingStops, x9_stopsAct, x9_stopsAct_44, x9_stopsAct_87, x9_plainChooses, x9_choosesAct, x9_choosesAct_32, runsI, Option.bind_some, I_succ, bif_t, hn, hk, eq_41, eq_42, eq_43, eq_44, eq_45, eq_46, eq_47, if_true, if_false, ite_true, ite_false]
    refine ⟨_, _, _, ?_, rfl⟩
    omega
theorem act_14 {n : Int32} (hn : inB n 50 = true) {kind : Nat → Int32} (hk : kind n.toNatClampNeg = 4) (x : Int32) (tr : Nat → Int32) : x0_runR 64 (I 0) n 4 tr 1 4 x (I 0) = x9_stopsAct (I 0) kind tr n x ∧ ∃ v r tr', r < 24 ∧ x9_stopsAct (I 0) kind tr n x = some (v, I r, tr') := by
  constructor
  · simp (disch := omega) only [R_00, R_01, R_02, R_03, R_04, R_05, R_06, R_07, R_10, R_11, R_12, R_13, R_14, R_15, R_16, R_17, R_20, R_21, R_22, R_23, R_24, R_25, R_26, R_27, R_30, R_31, R_32, R_33, R_34, R_35, R_36, R_37, W_1, W_2, W_10, W_11, W_20, W_30, W_40, W_41, W_50, W_60, W_61, W_70, W_80, W_81, x9_standsAct, x9_standsAct_48, x9_standsAct_85, x9_goodStands, x9_plainStands, x9_ridesAct, x9_ridesAct_40, x9_ridesAct_77, x9_plainRides, x9_plainStops, x9_askingStops, x9_stopsAct, x9_stopsAct_44, x9_stopsAct_87, x9_plainChooses, x9_choosesAct, x9_choosesAct_32, runsI, Option.bind_some, I_succ, bif_t, hn, hk, eq_41, eq_42, eq_43, eq_44, eq_45, eq_46, eq_47, if_true, if_false, ite_true, ite_false]
  · simp (disch := omega) only [x9_standsAct, x9_standsAct_48, x9_standsAct_85, x9_goodStands, x9_plainStands, x9_ridesAct, x9_ridesAct_40, x9_ridesAct_77, x9_plainRides, x9_plainStops, x9_askingStops, x9_stopsAct, x9_stopsAct_44, x9_stopsAct_87, x9_plainChooses, x9_choosesAct, x9_choosesAct_32, runsI, Option.bind_some, I_succ, bif_t, hn, hk, eq_41, eq_42, eq_43, eq_44, eq_45, eq_46, eq_47, if_true, if_false, ite_true, ite_false]
    refine ⟨_, _, _, ?_, rfl⟩
    omega
theorem act_24 {n : Int32} (hn : inB n 50 = true) {kind : Nat → Int32} (hk : kind n.toNatClampNeg = 4) (x : Int32) (tr : Nat → Int32) : x0_runR 64 (I 0) n 4 tr 2 4 x (I 0) = x9_ridesAct (I 0) kind tr n x ∧ ∃ v r tr', r < 24 ∧ x9_ridesAct (I 0) kind tr n x = some (v, I r, tr') := by
  constructor
  · simp (disch := omega) only [R_00, R_01, R_02, R_03, R_04, R_05, R_06, R_07, R_10, R_11, R_12, R_13, R_14, R_15, R_16, R_17, R_20, R_21, R_22, R_23, R_24, R_25, R_26, R_27, R_30, R_31, R_32, R_33, R_34, R_35, R_36, R_37, W_1, W_2, W_10, W_11, W_20, W_30, W_40, W_41, W_50, W_60, W_61, W_70, W_80, W_81, x9_standsAct, x9_standsAct_48, x9_standsAct_85, x9_goodStands, x9_plainStands, x9_ridesAct, x9_ridesAct_40, x9_ridesAct_77, x9_plainRides, x9_plainStops, x9_askingStops, x9_stopsAct, x9_stopsAct_44, x9_stopsAct_87, x9_plainChooses, x9_choosesAct, x9_choosesAct_32, runsI, Option.bind_some, I_succ, bif_t, hn, hk, eq_41, eq_42, eq_43, eq_44, eq_45, eq_46, eq_47, if_true, if_false, ite_true, ite_false]
  · simp (disch := omega) only [x9_standsAct, x9_standsAct_48, x9_standsAct_85, x9_goodStands, x9_plainStands, x9_ridesAct, x9_ridesAct_40, x9_ridesAct_77, x9_plainRides, x9_plainStops, x9_askingStops, x9_stopsAct, x9_stopsAct_44, x9_stopsAct_87, x9_plainChooses, x9_choosesAct, x9_choosesAct_32, runsI, Option.bind_some, I_succ, bif_t, hn, hk, eq_41, eq_42, eq_43, eq_44, eq_45, eq_46, eq_47, if_true, if_false, ite_true, ite_false]
    refine ⟨_, _, _, ?_, rfl⟩
    omega
theorem act_34 {n : Int32} (hn : inB n 50 = true) {kind : Nat → Int32} (hk : kind n.toNatClampNeg = 4) (x : Int32) (tr : Nat → Int32) : x0_runR 64 (I 0) n 4 tr 3 4 x (I 0) = x9_choosesAct (I 0) kind tr n x ∧ ∃ v r tr', r < 24 ∧ x9_choosesAct (I 0) kind tr n x = some (v, I r, tr') := by
  have em : ∃ v r tr2, r < 24 ∧ x9_choosesAct (I 0) kind tr n x = some (v, I r, tr2) ∧ x0_runR 64 (I 0) n 4 tr 3 4 x (I 0) = some (v, I r, tr2) := by
    try simp (disch := omega) only [x9_choosesAct, hn, hk, eq_41, eq_42, eq_43, eq_44, eq_45, eq_46, eq_47, bif_t, if_true, if_false, ite_true, ite_false]
    try simp (disch := omega) only [x9_choosesAct_32, x9_plainChooses, runsI, Option.bind_some]
    try simp (disch := omega) only [x9_stopsAct, hn, hk, eq_41, eq_42, eq_43, eq_44, eq_45, eq_46, eq_47, bif_t, if_true, if_false, ite_true, ite_false]
    try simp (disch := omega) only [x9_stopsAct_44, x9_stopsAct_87, x9_askingStops, x9_plainStops, runsI, Option.bind_some]
    try simp (disch := omega) only [x9_standsAct, hn, hk, eq_41, eq_42, eq_43, eq_44, eq_45, eq_46, eq_47, bif_t, if_true, if_false, ite_true, ite_false]
    try simp (disch := omega) only [x9_standsAct_48, x9_standsAct_85, x9_goodStands, x9_plainStands, runsI, Option.bind_some]
    try simp (disch := omega) only [x9_ridesAct, hn, hk, eq_41, eq_42, eq_43, eq_44, eq_45, eq_46, eq_47, bif_t, if_true, if_false, ite_true, ite_false]
    try simp (disch := omega) only [x9_ridesAct_40, x9_ridesAct_77, x9_plainRides, runsI, Option.bind_some]
    try simp (disch := omega) only [x9_standsAct, hn, hk, eq_41, eq_42, eq_43, eq_44, eq_45, eq_46, eq_47, bif_t, if_true, if_false, ite_true, ite_false]
    try simp (disch := omega) only [x9_standsAct_48, x9_standsAct_85, x9_goodStands, x9_plainStands, runsI, Option.bind_some, I_succ]
    simp (disch := omega) only [R_00, R_01, R_02, R_03, R_04, R_05, R_06, R_07, R_10, R_11, R_12, R_13, R_14, R_15, R_16, R_17, R_20, R_21, R_22, R_23, R_24, R_25, R_26, R_27, R_30, R_31, R_32, R_33, R_34, R_35, R_36, R_37, W_1, W_2, W_10, W_11, W_20, W_30, W_40, W_41, W_50, W_60, W_61, W_70, W_80, W_81, Option.bind_some, I_succ]
    refine ⟨_, _, _, ?_, rfl, rfl⟩
    omega
  obtain ⟨v, r, tr2, h1, h2, h3⟩ := em
  exact ⟨h3.trans h2.symm, v, r, tr2, h1, h2⟩

theorem eq_51 : ((5 : Int32) = 1) = False := by exact eq_false (by decide)
theorem eq_52 : ((5 : Int32) = 2) = False := by exact eq_false (by decide)
theorem eq_53 : ((5 : Int32) = 3) = False := by exact eq_false (by decide)
theorem eq_54 : ((5 : Int32) = 4) = False := by exact eq_false (by decide)
theorem eq_55 : ((5 : Int32) = 5) = True := by exact eq_self _
theorem eq_56 : ((5 : Int32) = 6) = False := by exact eq_false (by decide)
theorem eq_57 : ((5 : Int32) = 7) = False := by exact eq_false (by decide)
theorem act_05 {n : Int32} (hn : inB n 50 = true) {kind : Nat → Int32} (hk : kind n.toNatClampNeg = 5) (x : Int32) (tr : Nat → Int32) : x0_runR 64 (I 0) n 5 tr 0 5 x (I 0) = x9_standsAct (I 0) kind tr n x ∧ ∃ v r tr', r < 24 ∧ x9_standsAct (I 0) kind tr n x = some (v, I r, tr') := by
  constructor
  · simp (disch := omega) only [R_00, R_01, R_02, R_03, R_04, R_05, R_06, R_07, R_10, R_11, R_12, R_13, R_14, R_15, R_16, R_17, R_20, R_21, R_22, R_23, R_24, R_25, R_26, R_27, R_30, R_31, R_32, R_33, R_34, R_35, R_36, R_37, W_1, W_2, W_10, W_11, W_20, W_30, W_40, W_41, W_50, W_60, W_61, W_70, W_80, W_81, x9_standsAct, x9_standsAct_48, x9_standsAct_85, x9_goodStands, x9_plainStands, x9_ridesAct, x9_ridesAct_40, x9_ridesAct_77, x9_plainRides, x9_plainStops, x9_askingStops, x9_stopsAct, x9_stopsAct_44, x9_stopsAct_87, x9_plainChooses, x9_choosesAct, x9_choosesAct_32, runsI, Option.bind_some, I_succ, bif_t, hn, hk, eq_51, eq_52, eq_53, eq_54, eq_55, eq_56, eq_57, if_true, if_false, ite_true, ite_false]
  · simp (disch := omega) only [x9_standsAct, x9_standsAct_48, x9_standsAct_85, x9_goodStands, x9_plainStands, x9_ridesAct, x9_ridesAct_40, x9_ridesAct_77, x9_plainRides, x9_plainStops, x9_askingStops, x9_stopsAct, x9_stopsAct_44, x9_stopsAct_87, x9_plainChooses, x9_choosesAct, x9_choosesAct_32, runsI, Option.bind_some, I_succ, bif_t, hn, hk, eq_51, eq_52, eq_53, eq_54, eq_55, eq_56, eq_57, if_true, if_false, ite_true, ite_false]
    refine ⟨_, _, _, ?_, rfl⟩
    omega
theorem act_15 {n : Int32} (hn : inB n 50 = true) {kind : Nat → Int32} (hk : kind n.toNatClampNeg = 5) (x : Int32) (tr : Nat → Int32) : x0_runR 64 (I 0) n 5 tr 1 5 x (I 0) = x9_stopsAct (I 0) kind tr n x ∧ ∃ v r tr', r < 24 ∧ x9_stopsAct (I 0) kind tr n x = some (v, I r, tr') := by
  constructor
  · simp (disch := omega) only [R_00, R_01, R_02, R_03, R_04, R_05, R_06, R_07, R_10, R_11, R_12, R_13, R_14, R_15, R_16, R_17, R_20, R_21, R_22, R_23, R_24, R_25, R_26, R_27, R_30, R_31, R_32, R_33, R_34, R_35, R_36, R_37, W_1, W_2, W_10, W_11, W_20, W_30, W_40, W_41, W_50, W_60, W_61, W_70, W_80, W_81, x9_standsAct, x9_standsAct_48, x9_standsAct_85, x9_goodStands, x9_plainStands, x9_ridesAct, x9_ridesAct_40, x9_ridesAct_77, x9_plainRides, x9_plainStops, x9_askingStops, x9_stopsAct, x9_stopsAct_44, x9_stopsAct_87, x9_plainChooses, x9_choosesAct, x9_choosesAct_32, runsI, Option.bind_some, I_succ, bif_t, hn, hk, eq_51, eq_52, eq_53, eq_54, eq_55, eq_56, eq_57, if_true, if_false, ite_true, ite_false]
  · simp (disch := omega) only [x9_standsAct, x9_standsAct_48, x9_standsAct_85, x9_goodStands, x9_plainStands, x9_ridesAct, x9_ridesAct_40, x9_ridesAct_77, x9_plainRides, x9_plainStops, x9_askingStops, x9_stopsAct, x9_stopsAct_44, x9_stopsAct_87, x9_plainChooses, x9_choosesAct, x9_choosesAct_32, runsI, Option.bind_some, I_succ, bif_t, hn, hk, eq_51, eq_52, eq_53, eq_54, eq_55, eq_56, eq_57, if_true, if_false, ite_true, ite_false]
    refine ⟨_, _, _, ?_, rfl⟩
    omega
theorem act_25 {n : Int32} (hn : inB n 50 = true) {kind : Nat → Int32} (hk : kind n.toNatClampNeg = 5) (x : Int32) (tr : Nat → Int32) : x0_runR 64 (I 0) n 5 tr 2 5 x (I 0) = x9_ridesAct (I 0) kind tr n x ∧ ∃ v r tr', r < 24 ∧ x9_ridesAct (I 0) kind tr n x = some (v, I r, tr') := by
  constructor
  · simp (disch := omega) only [R_00, R_01, R_02, R_03, R_04, R_05, R_06, R_07, R_10, R_11, R_12, R_13, R_14, R_15, R_16, R_17, R_20, R_21, R_22, R_23, R_24, R_25, R_26, R_27, R_30, R_31, R_32, R_33, R_34, R_35, R_36, R_37, W_1, W_2, W_10, W_11, W_20, W_30, W_40, W_41, W_50, W_60, W_61, W_70, W_80, W_81, x9_standsAct, x9_standsAct_48, x9_standsAct_85, x9_goodStands, x9_plainStands, x9_ridesAct, x9_ridesAct_40, x9_ridesAct_77, x9_plainRides, x9_plainStops, x9_askingStops, x9_stopsAct, x9_stopsAct_44, x9_stopsAct_87, x9_plainChooses, x9_choosesAct, x9_choosesAct_32, runsI, Option.bind_some, I_succ, bif_t, hn, hk, eq_51, eq_52, eq_53, eq_54, eq_55, eq_56, eq_57, if_true, if_false, ite_true, ite_false]
  · simp (disch := omega) only [x9_standsAct, x9_standsAct_48, x9_standsAct_85, x9_goodStands, x9_plainStands, x9_ridesAct, x9_ridesAct_40, x9_ridesAct_77, x9_plainRides, x9_plainStops, x9_askingStops, x9_stopsAct, x9_stopsAct_44, x9_stopsAct_87, x9_plainChooses, x9_choosesAct, x9_choosesAct_32, runsI, Option.bind_some, I_succ, bif_t, hn, hk, eq_51, eq_52, eq_53, eq_54, eq_55, eq_56, eq_57, if_true, if_false, ite_true, ite_false]
    refine ⟨_, _, _, ?_, rfl⟩
    omega
theorem act_35 {n : Int32} (hn : inB n 50 = true) {kind : Nat → Int32} (hk : kind n.toNatClampNeg = 5) (x : Int32) (tr : Nat → Int32) : x0_runR 64 (I 0) n 5 tr 3 5 x (I 0) = x9_choosesAct (I 0) kind tr n x ∧ ∃ v r tr', r < 24 ∧ x9_choosesAct (I 0) kind tr n x = some (v, I r, tr') := by
  have em : ∃ v r tr2, r < 24 ∧ x9_choosesAct (I 0) kind tr n x = some (v, I r, tr2) ∧ x0_runR 64 (I 0) n 5 tr 3 5 x (I 0) = some (v, I r, tr2) := by
    try simp (disch := omega) only [x9_choosesAct, hn, hk, eq_51, eq_52, eq_53, eq_54, eq_55, eq_56, eq_57, bif_t, if_true, if_false, ite_true, ite_false]
    try simp (disch := omega) only [x9_choosesAct_32, x9_plainChooses, runsI, Option.bind_some]
    try simp (disch := omega) only [x9_stopsAct, hn, hk, eq_51, eq_52, eq_53, eq_54, eq_55, eq_56, eq_57, bif_t, if_true, if_false, ite_true, ite_false]
    try simp (disch := omega) only [x9_stopsAct_44, x9_stopsAct_87, x9_askingStops, x9_plainStops, runsI, Option.bind_some]
    try simp (disch := omega) only [x9_standsAct, hn, hk, eq_51, eq_52, eq_53, eq_54, eq_55, eq_56, eq_57, bif_t, if_true, if_false, ite_true, ite_false]
    try simp (disch := omega) only [x9_standsAct_48, x9_standsAct_85, x9_goodStands, x9_plainStands, runsI, Option.bind_some]
    try simp (disch := omega) only [x9_ridesAct, hn, hk, eq_51, eq_52, eq_53, eq_54, eq_55, eq_56, eq_57, bif_t, if_true, if_false, ite_true, ite_false]
    try simp (disch := omega) only [x9_ridesAct_40, x9_ridesAct_77, x9_plainRides, runsI, Option.bind_some]
    try simp (disch := omega) only [x9_standsAct, hn, hk, eq_51, eq_52, eq_53, eq_54, eq_55, eq_56, eq_57, bif_t, if_true, if_false, ite_true, ite_false]
    try simp (disch := omega) only [x9_standsAct_48, x9_standsAct_85, x9_goodStands, x9_plainStands, runsI, Option.bind_some, I_succ]
    simp (disch := omega) only [R_00, R_01, R_02, R_03, R_04, R_05, R_06, R_07, R_10, R_11, R_12, R_13, R_14, R_15, R_16, R_17, R_20, R_21, R_22, R_23, R_24, R_25, R_26, R_27, R_30, R_31, R_32, R_33, R_34, R_35, R_36, R_37, W_1, W_2, W_10, W_11, W_20, W_30, W_40, W_41, W_50, W_60, W_61, W_70, W_80, W_81, Option.bind_some, I_succ]
    refine ⟨_, _, _, ?_, rfl, rfl⟩
    omega
  obtain ⟨v, r, tr2, h1, h2, h3⟩ := em
  exact ⟨h3.trans h2.symm, v, r, tr2, h1, h2⟩

theorem eq_61 : ((6 : Int32) = 1) = False := by exact eq_false (by decide)
theorem eq_62 : ((6 : Int32) = 2) = False := by exact eq_false (by decide)
theorem eq_63 : ((6 : Int32) = 3) = False := by exact eq_false (by decide)
theorem eq_64 : ((6 : Int32) = 4) = False := by exact eq_false (by decide)
theorem eq_65 : ((6 : Int32) = 5) = False := by exact eq_false (by decide)
theorem eq_66 : ((6 : Int32) = 6) = True := by exact eq_self _
theorem eq_67 : ((6 : Int32) = 7) = False := by exact eq_false (by decide)
theorem act_06 {n : Int32} (hn : inB n 50 = true) {kind : Nat → Int32} (hk : kind n.toNatClampNeg = 6) (x : Int32) (tr : Nat → Int32) : x0_runR 64 (I 0) n 6 tr 0 6 x (I 0) = x9_standsAct (I 0) kind tr n x ∧ ∃ v r tr', r < 24 ∧ x9_standsAct (I 0) kind tr n x = some (v, I r, tr') := by
  constructor
  · simp (disch := omega) only [R_00, R_01, R_02, R_03, R_04, R_05, R_06, R_07, R_10, R_11, R_12, R_13, R_14, R_15, R_16, R_17, R_20, R_21, R_22, R_23, R_24, R_25, R_26, R_27, R_30, R_31, R_32, R_33, R_34, R_35, R_36, R_37, W_1, W_2, W_10, W_11, W_20, W_30, W_40, W_41, W_50, W_60, W_61, W_70, W_80, W_81, x9_standsAct, x9_standsAct_48, x9_standsAct_85, x9_goodStands, x9_plainStands, x9_ridesAct, x9_ridesAct_40, x9_ridesAct_77, x9_plainRides, x9_plainStops, x9_askingStops, x9_stopsAct, x9_stopsAct_44, x9_stopsAct_87, x9_plainChooses, x9_choosesAct, x9_choosesAct_32, runsI, Option.bind_some, I_succ, bif_t, hn, hk, eq_61, eq_62, eq_63, eq_64, eq_65, eq_66, eq_67, if_true, if_false, ite_true, ite_false]
  · simp (disch := omega) only [x9_standsAct, x9_standsAct_48, x9_standsAct_85, x9_goodStands, x9_plainStands, x9_ridesAct, x9_ridesAct_40, x9_ridesAct_77, x9_plainRides, x9_plainStops, x9_askingStops, x9_stopsAct, x9_stopsAct_44, x9_stopsAct_87, x9_plainChooses, x9_choosesAct, x9_choosesAct_32, runsI, Option.bind_some, I_succ, bif_t, hn, hk, eq_61, eq_62, eq_63, eq_64, eq_65, eq_66, eq_67, if_true, if_false, ite_true, ite_false]
    refine ⟨_, _, _, ?_, rfl⟩
    omega
theorem act_16 {n : Int32} (hn : inB n 50 = true) {kind : Nat → Int32} (hk : kind n.toNatClampNeg = 6) (x : Int32) (tr : Nat → Int32) : x0_runR 64 (I 0) n 6 tr 1 6 x (I 0) = x9_stopsAct (I 0) kind tr n x ∧ ∃ v r tr', r < 24 ∧ x9_stopsAct (I 0) kind tr n x = some (v, I r, tr') := by
  constructor
  · simp (disch := omega) only [R_00, R_01, R_02, R_03, R_04, R_05, R_06, R_07, R_10, R_11, R_12, R_13, R_14, R_15, R_16, R_17, R_20, R_21, R_22, R_23, R_24, R_25, R_26, R_27, R_30, R_31, R_32, R_33, R_34, R_35, R_36, R_37, W_1, W_2, W_10, W_11, W_20, W_30, W_40, W_41, W_50, W_60, W_61, W_70, W_80, W_81, x9_standsAct, x9_standsAct_48, x9_standsAct_85, x9_goodStands, x9_plainStands, x9_ridesAct, x9_ridesAct_40, x9_ridesAct_77, x9_plainRides, x9_plainStops, x9_askingStops, x9_stopsAct, x9_stopsAct_44, x9_stopsAct_87, x9_plainChooses, x9_choosesAct, x9_choosesAct_32, runsI, Option.bind_some, I_succ, bif_t, hn, hk, eq_61, eq_62, eq_63, eq_64, eq_65, eq_66, eq_67, if_true, if_false, ite_true, ite_false]
  · simp (disch := omega) only [x9_standsAct, x9_standsAct_48, x9_standsAct_85, x9_goodStands, x9_plainStands, x9_ridesAct, x9_ridesAct_40, x9_ridesAct_77, x9_plainRides, x9_plainStops, x9_askingStops, x9_stopsAct, x9_stopsAct_44, x9_stopsAct_87, x9_plainChooses, x9_choosesAct, x9_choosesAct_32, runsI, Option.bind_some, I_succ, bif_t, hn, hk, eq_61, eq_62, eq_63, eq_64, eq_65, eq_66, eq_67, if_true, if_false, ite_true, ite_false]
    refine ⟨_, _, _, ?_, rfl⟩
    omega
theorem act_26 {n : Int32} (hn : inB n 50 = true) {kind : Nat → Int32} (hk : kind n.toNatClampNeg = 6) (x : Int32) (tr : Nat → Int32) : x0_runR 64 (I 0) n 6 tr 2 6 x (I 0) = x9_ridesAct (I 0) kind tr n x ∧ ∃ v r tr', r < 24 ∧ x9_ridesAct (I 0) kind tr n x = some (v, I r, tr') := by
  constructor
  · simp (disch := omega) only [R_00, R_01, R_02, R_03, R_04, R_05, R_06, R_07, R_10, R_11, R_12, R_13, R_14, R_15, R_16, R_17, R_20, R_21, R_22, R_23, R_24, R_25, R_26, R_27, R_30, R_31, R_32, R_33, R_34, R_35, R_36, R_37, W_1, W_2, W_10, W_11, W_20, W_30, W_40, W_41, W_50, W_60, W_61, W_70, W_80, W_81, x9_standsAct, x9_standsAct_48, x9_standsAct_85, x9_goodStands, x9_plainStands, x9_ridesAct, x9_ridesAct_40, x9_ridesAct_77, x9_plainRides, x9_plainStops, x9_askingStops, x9_stopsAct, x9_stopsAct_44, x9_stopsAct_87, x9_plainChooses, x9_choosesAct, x9_choosesAct_32, runsI, Option.bind_some, I_succ, bif_t, hn, hk, eq_61, eq_62, eq_63, eq_64, eq_65, eq_66, eq_67, if_true, if_false, ite_true, ite_false]
  · simp (disch := omega) only [x9_standsAct, x9_standsAct_48, x9_standsAct_85, x9_goodStands, x9_plainStands, x9_ridesAct, x9_ridesAct_40, x9_ridesAct_77, x9_plainRides, x9_plainStops, x9_askingStops, x9_stopsAct, x9_stopsAct_44, x9_stopsAct_87, x9_plainChooses, x9_choosesAct, x9_choosesAct_32, runsI, Option.bind_some, I_succ, bif_t, hn, hk, eq_61, eq_62, eq_63, eq_64, eq_65, eq_66, eq_67, if_true, if_false, ite_true, ite_false]
    refine ⟨_, _, _, ?_, rfl⟩
    omega
theorem act_36 {n : Int32} (hn : inB n 50 = true) {kind : Nat → Int32} (hk : kind n.toNatClampNeg = 6) (x : Int32) (tr : Nat → Int32) : x0_runR 64 (I 0) n 6 tr 3 6 x (I 0) = x9_choosesAct (I 0) kind tr n x ∧ ∃ v r tr', r < 24 ∧ x9_choosesAct (I 0) kind tr n x = some (v, I r, tr') := by
  have em : ∃ v r tr2, r < 24 ∧ x9_choosesAct (I 0) kind tr n x = some (v, I r, tr2) ∧ x0_runR 64 (I 0) n 6 tr 3 6 x (I 0) = some (v, I r, tr2) := by
    try simp (disch := omega) only [x9_choosesAct, hn, hk, eq_61, eq_62, eq_63, eq_64, eq_65, eq_66, eq_67, bif_t, if_true, if_false, ite_true, ite_false]
    try simp (disch := omega) only [x9_choosesAct_32, x9_plainChooses, runsI, Option.bind_some]
    try simp (disch := omega) only [x9_stopsAct, hn, hk, eq_61, eq_62, eq_63, eq_64, eq_65, eq_66, eq_67, bif_t, if_true, if_false, ite_true, ite_false]
    try simp (disch := omega) only [x9_stopsAct_44, x9_stopsAct_87, x9_askingStops, x9_plainStops, runsI, Option.bind_some]
    try simp (disch := omega) only [x9_standsAct, hn, hk, eq_61, eq_62, eq_63, eq_64, eq_65, eq_66, eq_67, bif_t, if_true, if_false, ite_true, ite_false]
    try simp (disch := omega) only [x9_standsAct_48, x9_standsAct_85, x9_goodStands, x9_plainStands, runsI, Option.bind_some]
    try simp (disch := omega) only [x9_ridesAct, hn, hk, eq_61, eq_62, eq_63, eq_64, eq_65, eq_66, eq_67, bif_t, if_true, if_false, ite_true, ite_false]
    try simp (disch := omega) only [x9_ridesAct_40, x9_ridesAct_77, x9_plainRides, runsI, Option.bind_some]
    try simp (disch := omega) only [x9_standsAct, hn, hk, eq_61, eq_62, eq_63, eq_64, eq_65, eq_66, eq_67, bif_t, if_true, if_false, ite_true, ite_false]
    try simp (disch := omega) only [x9_standsAct_48, x9_standsAct_85, x9_goodStands, x9_plainStands, runsI, Option.bind_some, I_succ]
    simp (disch := omega) only [R_00, R_01, R_02, R_03, R_04, R_05, R_06, R_07, R_10, R_11, R_12, R_13, R_14, R_15, R_16, R_17, R_20, R_21, R_22, R_23, R_24, R_25, R_26, R_27, R_30, R_31, R_32, R_33, R_34, R_35, R_36, R_37, W_1, W_2, W_10, W_11, W_20, W_30, W_40, W_41, W_50, W_60, W_61, W_70, W_80, W_81, Option.bind_some, I_succ]
    refine ⟨_, _, _, ?_, rfl, rfl⟩
    omega
  obtain ⟨v, r, tr2, h1, h2, h3⟩ := em
  exact ⟨h3.trans h2.symm, v, r, tr2, h1, h2⟩

theorem eq_71 : ((7 : Int32) = 1) = False := by exact eq_false (by decide)
theorem eq_72 : ((7 : Int32) = 2) = False := by exact eq_false (by decide)
theorem eq_73 : ((7 : Int32) = 3) = False := by exact eq_false (by decide)
theorem eq_74 : ((7 : Int32) = 4) = False := by exact eq_false (by decide)
theorem eq_75 : ((7 : Int32) = 5) = False := by exact eq_false (by decide)
theorem eq_76 : ((7 : Int32) = 6) = False := by exact eq_false (by decide)
theorem eq_77 : ((7 : Int32) = 7) = True := by exact eq_self _
theorem act_07 {n : Int32} (hn : inB n 50 = true) {kind : Nat → Int32} (hk : kind n.toNatClampNeg = 7) (x : Int32) (tr : Nat → Int32) : x0_runR 64 (I 0) n 7 tr 0 7 x (I 0) = x9_standsAct (I 0) kind tr n x ∧ ∃ v r tr', r < 24 ∧ x9_standsAct (I 0) kind tr n x = some (v, I r, tr') := by
  constructor
  · simp (disch := omega) only [R_00, R_01, R_02, R_03, R_04, R_05, R_06, R_07, R_10, R_11, R_12, R_13, R_14, R_15, R_16, R_17, R_20, R_21, R_22, R_23, R_24, R_25, R_26, R_27, R_30, R_31, R_32, R_33, R_34, R_35, R_36, R_37, W_1, W_2, W_10, W_11, W_20, W_30, W_40, W_41, W_50, W_60, W_61, W_70, W_80, W_81, x9_standsAct, x9_standsAct_48, x9_standsAct_85, x9_goodStands, x9_plainStands, x9_ridesAct, x9_ridesAct_40, x9_ridesAct_77, x9_plainRides, x9_plainStops, x9_askingStops, x9_stopsAct, x9_stopsAct_44, x9_stopsAct_87, x9_plainChooses, x9_choosesAct, x9_choosesAct_32, runsI, Option.bind_some, I_succ, bif_t, hn, hk, eq_71, eq_72, eq_73, eq_74, eq_75, eq_76, eq_77, if_true, if_false, ite_true, ite_false]
  · simp (disch := omega) only [x9_standsAct, x9_standsAct_48, x9_standsAct_85, x9_goodStands, x9_plainStands, x9_ridesAct, x9_ridesAct_40, x9_ridesAct_77, x9_plainRides, x9_plainStops, x9_askingStops, x9_stopsAct, x9_stopsAct_44, x9_stopsAct_87, x9_plainChooses, x9_choosesAct, x9_choosesAct_32, runsI, Option.bind_some, I_succ, bif_t, hn, hk, eq_71, eq_72, eq_73, eq_74, eq_75, eq_76, eq_77, if_true, if_false, ite_true, ite_false]
    refine ⟨_, _, _, ?_, rfl⟩
    omega
theorem act_17 {n : Int32} (hn : inB n 50 = true) {kind : Nat → Int32} (hk : kind n.toNatClampNeg = 7) (x : Int32) (tr : Nat → Int32) : x0_runR 64 (I 0) n 7 tr 1 7 x (I 0) = x9_stopsAct (I 0) kind tr n x ∧ ∃ v r tr', r < 24 ∧ x9_stopsAct (I 0) kind tr n x = some (v, I r, tr') := by
  constructor
  · simp (disch := omega) only [R_00, R_01, R_02, R_03, R_04, R_05, R_06, R_07, R_10, R_11, R_12, R_13, R_14, R_15, R_16, R_17, R_20, R_21, R_22, R_23, R_24, R_25, R_26, R_27, R_30, R_31, R_32, R_33, R_34, R_35, R_36, R_37, W_1, W_2, W_10, W_11, W_20, W_30, W_40, W_41, W_50, W_60, W_61, W_70, W_80, W_81, x9_standsAct, x9_standsAct_48, x9_standsAct_85, x9_goodStands, x9_plainStands, x9_ridesAct, x9_ridesAct_40, x9_ridesAct_77, x9_plainRides, x9_plainStops, x9_askingStops, x9_stopsAct, x9_stopsAct_44, x9_stopsAct_87, x9_plainChooses, x9_choosesAct, x9_choosesAct_32, runsI, Option.bind_some, I_succ, bif_t, hn, hk, eq_71, eq_72, eq_73, eq_74, eq_75, eq_76, eq_77, if_true, if_false, ite_true, ite_false]
  · simp (disch := omega) only [x9_standsAct, x9_standsAct_48, x9_standsAct_85, x9_goodStands, x9_plainStands, x9_ridesAct, x9_ridesAct_40, x9_ridesAct_77, x9_plainRides, x9_plainStops, x9_askingStops, x9_stopsAct, x9_stopsAct_44, x9_stopsAct_87, x9_plainChooses, x9_choosesAct, x9_choosesAct_32, runsI, Option.bind_some, I_succ, bif_t, hn, hk, eq_71, eq_72, eq_73, eq_74, eq_75, eq_76, eq_77, if_true, if_false, ite_true, ite_false]
    refine ⟨_, _, _, ?_, rfl⟩
    omega
theorem act_27 {n : Int32} (hn : inB n 50 = true) {kind : Nat → Int32} (hk : kind n.toNatClampNeg = 7) (x : Int32) (tr : Nat → Int32) : x0_runR 64 (I 0) n 7 tr 2 7 x (I 0) = x9_ridesAct (I 0) kind tr n x ∧ ∃ v r tr', r < 24 ∧ x9_ridesAct (I 0) kind tr n x = some (v, I r, tr') := by
  constructor
  · simp (disch := omega) only [R_00, R_01, R_02, R_03, R_04, R_05, R_06, R_07, R_10, R_11, R_12, R_13, R_14, R_15, R_16, R_17, R_20, R_21, R_22, R_23, R_24, R_25, R_26, R_27, R_30, R_31, R_32, R_33, R_34, R_35, R_36, R_37, W_1, W_2, W_10, W_11, W_20, W_30, W_40, W_41, W_50, W_60, W_61, W_70, W_80, W_81, x9_standsAct, x9_standsAct_48, x9_standsAct_85, x9_goodStands, x9_plainStands, x9_ridesAct, x9_ridesAct_40, x9_ridesAct_77, x9_plainRides, x9_plainStops, x9_askingStops, x9_stopsAct, x9_stopsAct_44, x9_stopsAct_87, x9_plainChooses, x9_choosesAct, x9_choosesAct_32, runsI, Option.bind_some, I_succ, bif_t, hn, hk, eq_71, eq_72, eq_73, eq_74, eq_75, eq_76, eq_77, if_true, if_false, ite_true, ite_false]
  · simp (disch := omega) only [x9_standsAct, x9_standsAct_48, x9_standsAct_85, x9_goodStands, x9_plainStands, x9_ridesAct, x9_ridesAct_40, x9_ridesAct_77, x9_plainRides, x9_plainStops, x9_askingStops, x9_stopsAct, x9_stopsAct_44, x9_stopsAct_87, x9_plainChooses, x9_choosesAct, x9_choosesAct_32, runsI, Option.bind_some, I_succ, bif_t, hn, hk, eq_71, eq_72, eq_73, eq_74, eq_75, eq_76, eq_77, if_true, if_false, ite_true, ite_false]
    refine ⟨_, _, _, ?_, rfl⟩
    omega
theorem act_37 {n : Int32} (hn : inB n 50 = true) {kind : Nat → Int32} (hk : kind n.toNatClampNeg = 7) (x : Int32) (tr : Nat → Int32) : x0_runR 64 (I 0) n 7 tr 3 7 x (I 0) = x9_choosesAct (I 0) kind tr n x ∧ ∃ v r tr', r < 24 ∧ x9_choosesAct (I 0) kind tr n x = some (v, I r, tr') := by
  have em : ∃ v r tr2, r < 24 ∧ x9_choosesAct (I 0) kind tr n x = some (v, I r, tr2) ∧ x0_runR 64 (I 0) n 7 tr 3 7 x (I 0) = some (v, I r, tr2) := by
    try simp (disch := omega) only [x9_choosesAct, hn, hk, eq_71, eq_72, eq_73, eq_74, eq_75, eq_76, eq_77, bif_t, if_true, if_false, ite_true, ite_false]
    try simp (disch := omega) only [x9_choosesAct_32, x9_plainChooses, runsI, Option.bind_some]
    try simp (disch := omega) only [x9_stopsAct, hn, hk, eq_71, eq_72, eq_73, eq_74, eq_75, eq_76, eq_77, bif_t, if_true, if_false, ite_true, ite_false]
    try simp (disch := omega) only [x9_stopsAct_44, x9_stopsAct_87, x9_askingStops, x9_plainStops, runsI, Option.bind_some]
    try simp (disch := omega) only [x9_standsAct, hn, hk, eq_71, eq_72, eq_73, eq_74, eq_75, eq_76, eq_77, bif_t, if_true, if_false, ite_true, ite_false]
    try simp (disch := omega) only [x9_standsAct_48, x9_standsAct_85, x9_goodStands, x9_plainStands, runsI, Option.bind_some]
    try simp (disch := omega) only [x9_ridesAct, hn, hk, eq_71, eq_72, eq_73, eq_74, eq_75, eq_76, eq_77, bif_t, if_true, if_false, ite_true, ite_false]
    try simp (disch := omega) only [x9_ridesAct_40, x9_ridesAct_77, x9_plainRides, runsI, Option.bind_some]
    try simp (disch := omega) only [x9_standsAct, hn, hk, eq_71, eq_72, eq_73, eq_74, eq_75, eq_76, eq_77, bif_t, if_true, if_false, ite_true, ite_false]
    try simp (disch := omega) only [x9_standsAct_48, x9_standsAct_85, x9_goodStands, x9_plainStands, runsI, Option.bind_some, I_succ]
    simp (disch := omega) only [R_00, R_01, R_02, R_03, R_04, R_05, R_06, R_07, R_10, R_11, R_12, R_13, R_14, R_15, R_16, R_17, R_20, R_21, R_22, R_23, R_24, R_25, R_26, R_27, R_30, R_31, R_32, R_33, R_34, R_35, R_36, R_37, W_1, W_2, W_10, W_11, W_20, W_30, W_40, W_41, W_50, W_60, W_61, W_70, W_80, W_81, Option.bind_some, I_succ]
    refine ⟨_, _, _, ?_, rfl, rfl⟩
    omega
  obtain ⟨v, r, tr2, h1, h2, h3⟩ := em
  exact ⟨h3.trans h2.symm, v, r, tr2, h1, h2⟩


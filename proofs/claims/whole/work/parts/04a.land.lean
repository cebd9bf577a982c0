theorem fg3_hasPlace_36 : YF wsX3_hasPlace RX3 36 3 0 := ⟨RX3, TX3, 10, rfl, (fun w h => List.mem_cons_of_mem _ (List.mem_append_right _ h)), by decide, List.mem_of_getElem? (i := 1) rfl⟩
theorem yf3_hasPlace : (∃ Ty', wsX3_hasPlace = Cond.code yX3_hasPlace cX3_hasPlace 2 (some .boolean) :: Ty') ∧ (yX3_hasPlace.cls ≠ "java/lang/invoke/MethodHandle" ∧ yX3_hasPlace.cls ≠ "java/lang/invoke/VarHandle" ∧ (parseMethodDescriptor yX3_hasPlace.desc).map (fun d => d.parameters.length) = some 1) := ⟨⟨_, rfl⟩, by decide +kernel, by decide +kernel, by decide +kernel⟩
abbrev w3_hasPlace (cI cJ cZ : ClassId) (a0 a_room a_pumps a_from a_to a_flow a_length a_danger a_foot : Nat) (v_places : Int32) (v_roads : Int32) : va_W := [(a0, .inr (3, [.int v_places, .int v_roads, .ref a_room, .ref a_pumps, .ref a_from, .ref a_to, .ref a_flow, .ref a_length, .ref a_danger, .ref a_foot]))]
def x3_hasPlace (v_places : Int32) (p1 : Int32) : Option (Bool) :=
  if p1 < 0 then (some (false)) else (if v_places ≤ p1 then (some (false)) else (if 8 ≤ p1 then (some (false)) else (some (true))))
set_option maxHeartbeats 4000000 in
set_option maxRecDepth 100000 in
theorem c3_hasPlace (l : Launch) (D : va_G) (cI cJ cZ cS cT : ClassId) (a0 a_room a_pumps a_from a_to a_flow a_length a_danger a_foot : Nat) (v_places : Int32) (v_roads : Int32) (p1 : Int32) (out : Bool) (hx : x3_hasPlace v_places p1 = some out) : MC l D (yT cI cJ cZ cS cT) yX3_hasPlace wsX3_hasPlace ({ frames := 0, cells := 0, slots := 0, locals := 0 } : Room) (0, 0) [.ref a0, .int p1] (w3_hasPlace cI cJ cZ a0 a_room a_pumps a_from a_to a_flow a_length a_danger a_foot v_places v_roads) (POd (fun o : Bool => some (.int (bI o))) (fun o : Bool => (w3_hasPlace cI cJ cZ a0 a_room a_pumps a_from a_to a_flow a_length a_danger a_foot v_places v_roads)) out) := by
  refine MC.intro (cc := cX3_hasPlace) (nL := 2) (ret := (some .boolean)) (own := RX3) (lv := [(0, .ref a0), (1, .int p1)]) (by decide) rfl rfl (Nat.le_of_ble_eq_true rfl) rfl (fun X C E => ?_)
  unfold x3_hasPlace at hx
  refine Yiload_n C dX3_hasPlace_0 1 rfl rfl ?_
  refine Yif_lt C 22 dX3_hasPlace_1 (by decide) hx (fun _ hx => ?_) (fun _ hx => ?_)
  · skip
    refine Yiconst C 0 dX3_hasPlace_22 (by decide) ?_
    exact Yzret (b := false) C E dX3_hasPlace_23 (ypo hx rfl rfl)
  · skip
    refine Yiload_n C dX3_hasPlace_4 1 rfl rfl ?_
    refine Yaload_n C dX3_hasPlace_5 0 rfl rfl ?_
    refine Yget C fg3_hasPlace_36 dX3_hasPlace_6 0 rfl rfl ?_
    refine Yicmp_ge C 22 dX3_hasPlace_9 (by decide) hx (fun _ hx => ?_) (fun _ hx => ?_)
    · skip
      refine Yiconst C 0 dX3_hasPlace_22 (by decide) ?_
      exact Yzret (b := false) C E dX3_hasPlace_23 (ypo hx rfl rfl)
    · skip
      refine Yiload_n C dX3_hasPlace_12 1 rfl rfl ?_
      refine Ybipush C 8 dX3_hasPlace_13 (by decide) ?_
      refine Yicmp_ge C 22 dX3_hasPlace_15 (by decide) hx (fun _ hx => ?_) (fun _ hx => ?_)
      · skip
        refine Yiconst C 0 dX3_hasPlace_22 (by decide) ?_
        exact Yzret (b := false) C E dX3_hasPlace_23 (ypo hx rfl rfl)
      · skip
        refine Yiconst C 1 dX3_hasPlace_18 (by decide) ?_
        refine Ygoto C 23 dX3_hasPlace_19 (by decide) ?_
        exact Yzret (b := true) C E dX3_hasPlace_23 (ypo hx rfl rfl)
theorem fg3_hasRoad_40 : YF wsX3_hasRoad RX3 40 3 1 := ⟨RX3, TX3, 10, rfl, (fun w h => List.mem_cons_of_mem _ (List.mem_append_right _ h)), by decide, List.mem_of_getElem? (i := 1) rfl⟩
theorem yf3_hasRoad : (∃ Ty', wsX3_hasRoad = Cond.code yX3_hasRoad cX3_hasRoad 2 (some .boolean) :: Ty') ∧ (yX3_hasRoad.cls ≠ "java/lang/invoke/MethodHandle" ∧ yX3_hasRoad.cls ≠ "java/lang/invoke/VarHandle" ∧ (parseMethodDescriptor yX3_hasRoad.desc).map (fun d => d.parameters.length) = some 1) := ⟨⟨_, rfl⟩, by decide +kernel, by decide +kernel, by decide +kernel⟩
abbrev w3_hasRoad (cI cJ cZ : ClassId) (a0 a_room a_pumps a_from a_to a_flow a_length a_danger a_foot : Nat) (v_places : Int32) (v_roads : Int32) : va_W := [(a0, .inr (3, [.int v_places, .int v_roads, .ref a_room, .ref a_pumps, .ref a_from, .ref a_to, .ref a_flow, .ref a_length, .ref a_danger, .ref a_foot]))]
def x3_hasRoad (v_roads : Int32) (p1 : Int32) : Option (Bool) :=
  if p1 < 0 then (some (false)) else (if v_roads ≤ p1 then (some (false)) else (if 16 ≤ p1 then (some (false)) else (some (true))))
set_option maxHeartbeats 4000000 in
set_option maxRecDepth 100000 in
theorem c3_hasRoad (l : Launch) (D : va_G) (cI cJ cZ cS cT : ClassId) (a0 a_room a_pumps a_from a_to a_flow a_length a_danger a_foot : Nat) (v_places : Int32) (v_roads : Int32) (p1 : Int32) (out : Bool) (hx : x3_hasRoad v_roads p1 = some out) : MC l D (yT cI cJ cZ cS cT) yX3_hasRoad wsX3_hasRoad ({ frames := 0, cells := 0, slots := 0, locals := 0 } : Room) (0, 0) [.ref a0, .int p1] (w3_hasRoad cI cJ cZ a0 a_room a_pumps a_from a_to a_flow a_length a_danger a_foot v_places v_roads) (POd (fun o : Bool => some (.int (bI o))) (fun o : Bool => (w3_hasRoad cI cJ cZ a0 a_room a_pumps a_from a_to a_flow a_length a_danger a_foot v_places v_roads)) out) := by
  refine MC.intro (cc := cX3_hasRoad) (nL := 2) (ret := (some .boolean)) (own := RX3) (lv := [(0, .ref a0), (1, .int p1)]) (by decide) rfl rfl (Nat.le_of_ble_eq_true rfl) rfl (fun X C E => ?_)
  unfold x3_hasRoad at hx
  refine Yiload_n C dX3_hasRoad_0 1 rfl rfl ?_
  refine Yif_lt C 22 dX3_hasRoad_1 (by decide) hx (fun _ hx => ?_) (fun _ hx => ?_)
  · skip
    refine Yiconst C 0 dX3_hasRoad_22 (by decide) ?_
    exact Yzret (b := false) C E dX3_hasRoad_23 (ypo hx rfl rfl)
  · skip
    refine Yiload_n C dX3_hasRoad_4 1 rfl rfl ?_
    refine Yaload_n C dX3_hasRoad_5 0 rfl rfl ?_
    refine Yget C fg3_hasRoad_40 dX3_hasRoad_6 0 rfl rfl ?_
    refine Yicmp_ge C 22 dX3_hasRoad_9 (by decide) hx (fun _ hx => ?_) (fun _ hx => ?_)
    · skip
      refine Yiconst C 0 dX3_hasRoad_22 (by decide) ?_
      exact Yzret (b := false) C E dX3_hasRoad_23 (ypo hx rfl rfl)
    · skip
      refine Yiload_n C dX3_hasRoad_12 1 rfl rfl ?_
      refine Ybipush C 16 dX3_hasRoad_13 (by decide) ?_
      refine Yicmp_ge C 22 dX3_hasRoad_15 (by decide) hx (fun _ hx => ?_) (fun _ hx => ?_)
      · skip
        refine Yiconst C 0 dX3_hasRoad_22 (by decide) ?_
        exact Yzret (b := false) C E dX3_hasRoad_23 (ypo hx rfl rfl)
      · skip
        refine Yiconst C 1 dX3_hasRoad_18 (by decide) ?_
        refine Ygoto C 23 dX3_hasRoad_19 (by decide) ?_
        exact Yzret (b := true) C E dX3_hasRoad_23 (ypo hx rfl rfl)
theorem yf3_hasPair : (∃ Ty', wsX3_hasPair = Cond.code yX3_hasPair cX3_hasPair 2 (some .boolean) :: Ty') ∧ (yX3_hasPair.cls ≠ "java/lang/invoke/MethodHandle" ∧ yX3_hasPair.cls ≠ "java/lang/invoke/VarHandle" ∧ (parseMethodDescriptor yX3_hasPair.desc).map (fun d => d.parameters.length) = some 1) := ⟨⟨_, rfl⟩, by decide +kernel, by decide +kernel, by decide +kernel⟩
abbrev w3_hasPair (cI cJ cZ : ClassId) (a0 a_room a_pumps a_from a_to a_flow a_length a_danger a_foot : Nat) (v_places : Int32) (v_roads : Int32) : va_W := [(a0, .inr (3, [.int v_places, .int v_roads, .ref a_room, .ref a_pumps, .ref a_from, .ref a_to, .ref a_flow, .ref a_length, .ref a_danger, .ref a_foot]))]
def x3_hasPair (v_places : Int32) (p1 : Int32) : Option (Bool) :=
  if p1 < 0 then (some (false)) else ((x3_hasPlace v_places (p1 / 10)).bind fun o1 => bif o1 then ((x3_hasPlace v_places (p1 - p1 / 10 * 10)).bind fun o2 => bif o2 then (some (true)) else (some (false))) else (some (false)))
set_option maxHeartbeats 4000000 in
set_option maxRecDepth 100000 in
theorem c3_hasPair (l : Launch) (D : va_G) (cI cJ cZ cS cT : ClassId) (a0 a_room a_pumps a_from a_to a_flow a_length a_danger a_foot : Nat) (v_places : Int32) (v_roads : Int32) (p1 : Int32) (out : Bool) (hx : x3_hasPair v_places p1 = some out) : MC l D (yT cI cJ cZ cS cT) yX3_hasPair wsX3_hasPair ({ frames := 1, cells := 0, slots := 0, locals := 21 } : Room) (0, 0) [.ref a0, .int p1] (w3_hasPair cI cJ cZ a0 a_room a_pumps a_from a_to a_flow a_length a_danger a_foot v_places v_roads) (POd (fun o : Bool => some (.int (bI o))) (fun o : Bool => (w3_hasPair cI cJ cZ a0 a_room a_pumps a_from a_to a_flow a_length a_danger a_foot v_places v_roads)) out) := by
  refine MC.intro (cc := cX3_hasPair) (nL := 2) (ret := (some .boolean)) (own := RX3) (lv := [(0, .ref a0), (1, .int p1)]) (by decide) rfl rfl (Nat.le_of_ble_eq_true rfl) rfl (fun X C E => ?_)
  unfold x3_hasPair at hx
  refine Yiload_n C dX3_hasPair_0 1 rfl rfl ?_
  refine Yif_lt C 30 dX3_hasPair_1 (by decide) hx (fun _ hx => ?_) (fun _ hx => ?_)
  · skip
    refine Yiconst C 0 dX3_hasPair_30 (by decide) ?_
    exact Yzret (b := false) C E dX3_hasPair_31 (ypo hx rfl rfl)
  · skip
    refine Yaload_n C dX3_hasPair_4 0 rfl rfl ?_
    refine Yiload_n C dX3_hasPair_5 1 rfl rfl ?_
    refine Ybipush C 10 dX3_hasPair_6 (by decide) ?_
    refine Yidiv C dX3_hasPair_8 (by decide) ?_
    obtain ⟨o1, ho1, hx⟩ := ybnd hx
    refine YcallVd (ws' := (w3_hasPair cI cJ cZ a0 a_room a_pumps a_from a_to a_flow a_length a_danger a_foot v_places v_roads)) (st' := [.int (bI o1)]) (st := []) (as := [.int (p1 / 10)]) (b := a0) (ci := 3) C [0] dX3_hasPair_9 (c3_hasPlace l D cI cJ cZ cS cT a0 a_room a_pumps a_from a_to a_flow a_length a_danger a_foot v_places v_roads (p1 / 10) o1 ho1) gX3_hasPair_X3_hasPlace rfl ⟨yf3_hasPlace.1, yf3_hasPlace.2, Nat.le_of_ble_eq_true rfl, Nat.le_of_ble_eq_true rfl, rfl, rfl⟩ rfl 0 rfl (by decide) ⟨Nat.zero_le _, Nat.zero_le _⟩ (Nat.le_of_ble_eq_true rfl) rfl rfl rfl rfl ?_
    refine Yif_eq_b C 30 dX3_hasPair_12 (by decide) hx (fun _ hx => ?_) (fun _ hx => ?_)
    · skip
      refine Yiconst C 0 dX3_hasPair_30 (by decide) ?_
      exact Yzret (b := false) C E dX3_hasPair_31 (ypo hx rfl rfl)
    · skip
      refine Yaload_n C dX3_hasPair_15 0 rfl rfl ?_
      refine Yiload_n C dX3_hasPair_16 1 rfl rfl ?_
      refine Ybipush C 10 dX3_hasPair_17 (by decide) ?_
      refine Yirem C dX3_hasPair_19 (by decide) ?_
      obtain ⟨o2, ho2, hx⟩ := ybnd hx
      refine YcallVd (ws' := (w3_hasPair cI cJ cZ a0 a_room a_pumps a_from a_to a_flow a_length a_danger a_foot v_places v_roads)) (st' := [.int (bI o2)]) (st := []) (as := [.int (p1 - p1 / 10 * 10)]) (b := a0) (ci := 3) C [0] dX3_hasPair_20 (c3_hasPlace l D cI cJ cZ cS cT a0 a_room a_pumps a_from a_to a_flow a_length a_danger a_foot v_places v_roads (p1 - p1 / 10 * 10) o2 ho2) gX3_hasPair_X3_hasPlace rfl ⟨yf3_hasPlace.1, yf3_hasPlace.2, Nat.le_of_ble_eq_true rfl, Nat.le_of_ble_eq_true rfl, rfl, rfl⟩ rfl 0 rfl (by decide) ⟨Nat.zero_le _, Nat.zero_le _⟩ (Nat.le_of_ble_eq_true rfl) rfl rfl rfl rfl ?_
      refine Yif_eq_b C 30 dX3_hasPair_23 (by decide) hx (fun _ hx => ?_) (fun _ hx => ?_)
      · skip
        refine Yiconst C 0 dX3_hasPair_30 (by decide) ?_
        exact Yzret (b := false) C E dX3_hasPair_31 (ypo hx rfl rfl)
      · skip
        refine Yiconst C 1 dX3_hasPair_26 (by decide) ?_
        refine Ygoto C 31 dX3_hasPair_27 (by decide) ?_
        exact Yzret (b := true) C E dX3_hasPair_31 (ypo hx rfl rfl)
theorem fg3_addPlace_36 : YF wsX3_addPlace RX3 36 3 0 := ⟨RX3, TX3, 10, rfl, (fun w h => List.mem_cons_of_mem _ (List.mem_append_right _ h)), by decide, List.mem_of_getElem? (i := 1) rfl⟩
theorem fg3_addPlace_9 : YF wsX3_addPlace RX3 9 3 2 := ⟨RX3, TX3, 10, rfl, (fun w h => List.mem_cons_of_mem _ (List.mem_append_right _ h)), by decide, List.mem_of_getElem? (i := 2) rfl⟩
theorem fg3_addPlace_15 : YF wsX3_addPlace RX3 15 3 3 := ⟨RX3, TX3, 10, rfl, (fun w h => List.mem_cons_of_mem _ (List.mem_append_right _ h)), by decide, List.mem_of_getElem? (i := 3) rfl⟩
theorem fp3_addPlace_36 : YFp wsX3_addPlace RX3 36 3 0 (tyX3 0) := ⟨RX3, TX3, 10, tyX3, rfl, (fun w h => List.mem_cons_of_mem _ (List.mem_append_right _ h)), by decide, List.mem_of_getElem? (i := 1) rfl, tyX3_ok, nmX3, rfl, tyX3_ok _ (by decide)⟩
theorem yf3_addPlace : (∃ Ty', wsX3_addPlace = Cond.code yX3_addPlace cX3_addPlace 3 (some .int) :: Ty') ∧ (yX3_addPlace.cls ≠ "java/lang/invoke/MethodHandle" ∧ yX3_addPlace.cls ≠ "java/lang/invoke/VarHandle" ∧ (parseMethodDescriptor yX3_addPlace.desc).map (fun d => d.parameters.length) = some 2) := ⟨⟨_, rfl⟩, by decide +kernel, by decide +kernel, by decide +kernel⟩
abbrev w3_addPlace (cI cJ cZ : ClassId) (a0 a_pumps a_room a_from a_to a_flow a_length a_danger a_foot : Nat) (v_places : Int32) (v_roads : Int32) (v_pumps : Nat → Int32) (v_room : Nat → Int32) : va_W := [(a0, .inr (3, [.int v_places, .int v_roads, .ref a_room, .ref a_pumps, .ref a_from, .ref a_to, .ref a_flow, .ref a_length, .ref a_danger, .ref a_foot])), (a_pumps, .inl (cI, 8, .inl v_pumps)), (a_room, .inl (cI, 8, .inl v_room))]
def x3_addPlace (v_places : Int32) (v_pumps : Nat → Int32) (v_room : Nat → Int32) (p1 : Int32) (p2 : Int32) : Option (Int32 × Int32 × (Nat → Int32) × (Nat → Int32)) :=
  if v_places < 0 then (some ((-3), v_places, v_pumps, v_room)) else (if v_places < 8 then (bif inB v_places 8 then (bif inB v_places 8 then (some (((v_places + 1) - 1), (v_places + 1), (upd v_pumps v_places.toNatClampNeg p2), (upd v_room v_places.toNatClampNeg p1))) else none) else none) else (some ((-3), v_places, v_pumps, v_room)))
set_option maxHeartbeats 4000000 in
set_option maxRecDepth 100000 in
theorem c3_addPlace (l : Launch) (D : va_G) (cI cJ cZ cS cT : ClassId) (a0 a_pumps a_room a_from a_to a_flow a_length a_danger a_foot : Nat) (v_places : Int32) (v_roads : Int32) (v_pumps : Nat → Int32) (v_room : Nat → Int32) (p1 : Int32) (p2 : Int32) (out : Int32 × Int32 × (Nat → Int32) × (Nat → Int32)) (hx : x3_addPlace v_places v_pumps v_room p1 p2 = some out) : MC l D (yT cI cJ cZ cS cT) yX3_addPlace wsX3_addPlace ({ frames := 0, cells := 0, slots := 0, locals := 0 } : Room) (0, 0) [.ref a0, .int p1, .int p2] (w3_addPlace cI cJ cZ a0 a_pumps a_room a_from a_to a_flow a_length a_danger a_foot v_places v_roads v_pumps v_room) (POd (fun o : Int32 × Int32 × (Nat → Int32) × (Nat → Int32) => some (.int o.1)) (fun o : Int32 × Int32 × (Nat → Int32) × (Nat → Int32) => (w3_addPlace cI cJ cZ a0 a_pumps a_room a_from a_to a_flow a_length a_danger a_foot o.2.1 v_roads o.2.2.1 o.2.2.2)) out) := by
  refine MC.intro (cc := cX3_addPlace) (nL := 3) (ret := (some .int)) (own := RX3) (lv := [(0, .ref a0), (1, .int p1), (2, .int p2)]) (by decide) rfl rfl (Nat.le_of_ble_eq_true rfl) rfl (fun X C E => ?_)
  unfold x3_addPlace at hx
  refine Yaload_n C dX3_addPlace_0 0 rfl rfl ?_
  refine Yget C fg3_addPlace_36 dX3_addPlace_1 0 rfl rfl ?_
  refine Yif_lt C 16 dX3_addPlace_4 (by decide) hx (fun _ hx => ?_) (fun _ hx => ?_)
  · skip
    refine Ybipush C (-3) dX3_addPlace_16 (by decide) ?_
    exact Yiret C E dX3_addPlace_18 (ypo hx rfl rfl)
  · skip
    refine Yaload_n C dX3_addPlace_7 0 rfl rfl ?_
    refine Yget C fg3_addPlace_36 dX3_addPlace_8 0 rfl rfl ?_
    refine Ybipush C 8 dX3_addPlace_11 (by decide) ?_
    refine Yicmp_lt C 19 dX3_addPlace_13 (by decide) hx (fun _ hx => ?_) (fun _ hx => ?_)
    · skip
      refine Yaload_n C dX3_addPlace_19 0 rfl rfl ?_
      refine Yget C fg3_addPlace_9 dX3_addPlace_20 0 rfl rfl ?_
      refine Yaload_n C dX3_addPlace_23 0 rfl rfl ?_
      refine Yget C fg3_addPlace_36 dX3_addPlace_24 0 rfl rfl ?_
      refine Yiload_n C dX3_addPlace_27 1 rfl rfl ?_
      refine Yiast (ws' := (w3_addPlace cI cJ cZ a0 a_pumps a_room a_from a_to a_flow a_length a_danger a_foot v_places v_roads v_pumps (upd v_room v_places.toNatClampNeg p1))) C dX3_addPlace_28 hx 2 0 rfl rfl rfl (fun hx => ?_)
      refine Yaload_n C dX3_addPlace_29 0 rfl rfl ?_
      refine Yget C fg3_addPlace_15 dX3_addPlace_30 0 rfl rfl ?_
      refine Yaload_n C dX3_addPlace_33 0 rfl rfl ?_
      refine Yget C fg3_addPlace_36 dX3_addPlace_34 0 rfl rfl ?_
      refine Yiload_n C dX3_addPlace_37 2 rfl rfl ?_
      refine Yiast (ws' := (w3_addPlace cI cJ cZ a0 a_pumps a_room a_from a_to a_flow a_length a_danger a_foot v_places v_roads (upd v_pumps v_places.toNatClampNeg p2) (upd v_room v_places.toNatClampNeg p1))) C dX3_addPlace_38 hx 1 0 rfl rfl rfl (fun hx => ?_)
      refine Yaload_n C dX3_addPlace_39 0 rfl rfl ?_
      refine Ydup C dX3_addPlace_40 rfl ?_
      refine Yget C fg3_addPlace_36 dX3_addPlace_41 0 rfl rfl ?_
      refine Yiconst C 1 dX3_addPlace_44 (by decide) ?_
      refine Yiadd C dX3_addPlace_45 ?_
      refine Yput (v := .int (v_places + 1)) (ws' := (w3_addPlace cI cJ cZ a0 a_pumps a_room a_from a_to a_flow a_length a_danger a_foot (v_places + 1) v_roads (upd v_pumps v_places.toNatClampNeg p2) (upd v_room v_places.toNatClampNeg p1))) C fp3_addPlace_36 dX3_addPlace_46 0 rfl rfl rfl (Nat.le_of_ble_eq_true rfl) rfl rfl ?_
      refine Yaload_n C dX3_addPlace_49 0 rfl rfl ?_
      refine Yget C fg3_addPlace_36 dX3_addPlace_50 0 rfl rfl ?_
      refine Yiconst C 1 dX3_addPlace_53 (by decide) ?_
      refine Yisub C dX3_addPlace_54 ?_
      exact Yiret C E dX3_addPlace_55 (ypo hx rfl rfl)
    · skip
      refine Ybipush C (-3) dX3_addPlace_16 (by decide) ?_
      exact Yiret C E dX3_addPlace_18 (ypo hx rfl rfl)
theorem fg3_addRoad_40 : YF wsX3_addRoad RX3 40 3 1 := ⟨RX3, TX3, 10, rfl, (fun w h => List.mem_cons_of_mem _ (List.mem_append_right _ h)), by decide, List.mem_of_getElem? (i := 1) rfl⟩
theorem fg3_addRoad_18 : YF wsX3_addRoad RX3 18 3 4 := ⟨RX3, TX3, 10, rfl, (fun w h => List.mem_cons_of_mem _ (List.mem_append_right _ h)), by decide, List.mem_of_getElem? (i := 2) rfl⟩
theorem fg3_addRoad_21 : YF wsX3_addRoad RX3 21 3 5 := ⟨RX3, TX3, 10, rfl, (fun w h => List.mem_cons_of_mem _ (List.mem_append_right _ h)), by decide, List.mem_of_getElem? (i := 3) rfl⟩
theorem fg3_addRoad_24 : YF wsX3_addRoad RX3 24 3 6 := ⟨RX3, TX3, 10, rfl, (fun w h => List.mem_cons_of_mem _ (List.mem_append_right _ h)), by decide, List.mem_of_getElem? (i := 4) rfl⟩
theorem fg3_addRoad_27 : YF wsX3_addRoad RX3 27 3 7 := ⟨RX3, TX3, 10, rfl, (fun w h => List.mem_cons_of_mem _ (List.mem_append_right _ h)), by decide, List.mem_of_getElem? (i := 5) rfl⟩
theorem fg3_addRoad_30 : YF wsX3_addRoad RX3 30 3 8 := ⟨RX3, TX3, 10, rfl, (fun w h => List.mem_cons_of_mem _ (List.mem_append_right _ h)), by decide, List.mem_of_getElem? (i := 6) rfl⟩
theorem fp3_addRoad_40 : YFp wsX3_addRoad RX3 40 3 1 (tyX3 1) := ⟨RX3, TX3, 10, tyX3, rfl, (fun w h => List.mem_cons_of_mem _ (List.mem_append_right _ h)), by decide, List.mem_of_getElem? (i := 1) rfl, tyX3_ok, nmX3, rfl, tyX3_ok _ (by decide)⟩
theorem yf3_addRoad : (∃ Ty', wsX3_addRoad = Cond.code yX3_addRoad cX3_addRoad 5 (some .int) :: Ty') ∧ (yX3_addRoad.cls ≠ "java/lang/invoke/MethodHandle" ∧ yX3_addRoad.cls ≠ "java/lang/invoke/VarHandle" ∧ (parseMethodDescriptor yX3_addRoad.desc).map (fun d => d.parameters.length) = some 4) := ⟨⟨_, rfl⟩, by decide +kernel, by decide +kernel, by decide +kernel⟩
abbrev w3_addRoad (cI cJ cZ : ClassId) (a0 a_danger a_flow a_from a_length a_to a_room a_pumps a_foot : Nat) (v_places : Int32) (v_roads : Int32) (v_danger : Nat → Int32) (v_flow : Nat → Int32) (v_from : Nat → Int32) (v_length : Nat → Int32) (v_to : Nat → Int32) : va_W := [(a0, .inr (3, [.int v_places, .int v_roads, .ref a_room, .ref a_pumps, .ref a_from, .ref a_to, .ref a_flow, .ref a_length, .ref a_danger, .ref a_foot])), (a_danger, .inl (cI, 16, .inl v_danger)), (a_flow, .inl (cI, 16, .inl v_flow)), (a_from, .inl (cI, 16, .inl v_from)), (a_length, .inl (cI, 16, .inl v_length)), (a_to, .inl (cI, 16, .inl v_to))]
def x3_addRoad (v_places : Int32) (v_roads : Int32) (v_danger : Nat → Int32) (v_flow : Nat → Int32) (v_from : Nat → Int32) (v_length : Nat → Int32) (v_to : Nat → Int32) (p1 : Int32) (p2 : Int32) (p3 : Int32) (p4 : Int32) : Option (Int32 × Int32 × (Nat → Int32) × (Nat → Int32) × (Nat → Int32) × (Nat → Int32) × (Nat → Int32)) :=
  (x3_hasPair v_places p1).bind fun o1 => bif o1 then (if (p1 / 10) = (p1 - p1 / 10 * 10) then (some ((-1), v_roads, v_danger, v_flow, v_from, v_length, v_to)) else (if p2 < 1 then (some ((-1), v_roads, v_danger, v_flow, v_from, v_length, v_to)) else (if 60 < p2 then (some ((-1), v_roads, v_danger, v_flow, v_from, v_length, v_to)) else (if p3 < 1 then (some ((-1), v_roads, v_danger, v_flow, v_from, v_length, v_to)) else (if 300 < p3 then (some ((-1), v_roads, v_danger, v_flow, v_from, v_length, v_to)) else (if p4 < 0 then (some ((-1), v_roads, v_danger, v_flow, v_from, v_length, v_to)) else (if p4 ≤ 99 then (if v_roads < 0 then (some ((-3), v_roads, v_danger, v_flow, v_from, v_length, v_to)) else (if v_roads < 16 then (bif inB v_roads 16 then (bif inB v_roads 16 then (bif inB v_roads 16 then (bif inB v_roads 16 then (bif inB v_roads 16 then (some (((v_roads + 1) - 1), (v_roads + 1), (upd v_danger v_roads.toNatClampNeg p4), (upd v_flow v_roads.toNatClampNeg p2), (upd v_from v_roads.toNatClampNeg (p1 / 10)), (upd v_length v_roads.toNatClampNeg p3), (upd v_to v_roads.toNatClampNeg (p1 - p1 / 10 * 10)))) else none) else none) else none) else none) else none) else (some ((-3), v_roads, v_danger, v_flow, v_from, v_length, v_to)))) else (some ((-1), v_roads, v_danger, v_flow, v_from, v_length, v_to))))))))) else (some ((-1), v_roads, v_danger, v_flow, v_from, v_length, v_to))
set_option maxHeartbeats 4000000 in
set_option maxRecDepth 100000 in
theorem c3_addRoad (l : Launch) (D : va_G) (cI cJ cZ cS cT : ClassId) (a0 a_danger a_flow a_from a_length a_to a_room a_pumps a_foot : Nat) (v_places : Int32) (v_roads : Int32) (v_danger : Nat → Int32) (v_flow : Nat → Int32) (v_from : Nat → Int32) (v_length : Nat → Int32) (v_to : Nat → Int32) (p1 : Int32) (p2 : Int32) (p3 : Int32) (p4 : Int32) (out : Int32 × Int32 × (Nat → Int32) × (Nat → Int32) × (Nat → Int32) × (Nat → Int32) × (Nat → Int32)) (hx : x3_addRoad v_places v_roads v_danger v_flow v_from v_length v_to p1 p2 p3 p4 = some out) : MC l D (yT cI cJ cZ cS cT) yX3_addRoad wsX3_addRoad ({ frames := 2, cells := 0, slots := 0, locals := 42 } : Room) (0, 0) [.ref a0, .int p1, .int p2, .int p3, .int p4] (w3_addRoad cI cJ cZ a0 a_danger a_flow a_from a_length a_to a_room a_pumps a_foot v_places v_roads v_danger v_flow v_from v_length v_to) (POd (fun o : Int32 × Int32 × (Nat → Int32) × (Nat → Int32) × (Nat → Int32) × (Nat → Int32) × (Nat → Int32) => some (.int o.1)) (fun o : Int32 × Int32 × (Nat → Int32) × (Nat → Int32) × (Nat → Int32) × (Nat → Int32) × (Nat → Int32) => (w3_addRoad cI cJ cZ a0 a_danger a_flow a_from a_length a_to a_room a_pumps a_foot v_places o.2.1 o.2.2.1 o.2.2.2.1 o.2.2.2.2.1 o.2.2.2.2.2.1 o.2.2.2.2.2.2)) out) := by
  refine MC.intro (cc := cX3_addRoad) (nL := 5) (ret := (some .int)) (own := RX3) (lv := [(0, .ref a0), (1, .int p1), (2, .int p2), (3, .int p3), (4, .int p4)]) (by decide) rfl rfl (Nat.le_of_ble_eq_true rfl) rfl (fun X C E => ?_)
  unfold x3_addRoad at hx
  refine Yaload_n C dX3_addRoad_0 0 rfl rfl ?_
  refine Yiload_n C dX3_addRoad_1 1 rfl rfl ?_
  obtain ⟨o1, ho1, hx⟩ := ybnd hx
  refine YcallVd (ws' := (w3_addRoad cI cJ cZ a0 a_danger a_flow a_from a_length a_to a_room a_pumps a_foot v_places v_roads v_danger v_flow v_from v_length v_to)) (st' := [.int (bI o1)]) (st := []) (as := [.int p1]) (b := a0) (ci := 3) C [0] dX3_addRoad_2 (c3_hasPair l D cI cJ cZ cS cT a0 a_room a_pumps a_from a_to a_flow a_length a_danger a_foot v_places v_roads p1 o1 ho1) gX3_addRoad_X3_hasPair rfl ⟨yf3_hasPair.1, yf3_hasPair.2, Nat.le_of_ble_eq_true rfl, Nat.le_of_ble_eq_true rfl, rfl, rfl⟩ rfl 0 rfl (by decide) ⟨Nat.zero_le _, Nat.zero_le _⟩ (Nat.le_of_ble_eq_true rfl) rfl rfl rfl rfl ?_
  refine Yif_eq_b C 54 dX3_addRoad_5 (by decide) hx (fun _ hx => ?_) (fun _ hx => ?_)
  · skip
    refine Yiconst C (-1) dX3_addRoad_54 (by decide) ?_
    exact Yiret C E dX3_addRoad_55 (ypo hx rfl rfl)
  · skip
    refine Yiload_n C dX3_addRoad_8 1 rfl rfl ?_
    refine Ybipush C 10 dX3_addRoad_9 (by decide) ?_
    refine Yidiv C dX3_addRoad_11 (by decide) ?_
    refine Yiload_n C dX3_addRoad_12 1 rfl rfl ?_
    refine Ybipush C 10 dX3_addRoad_13 (by decide) ?_
    refine Yirem C dX3_addRoad_15 (by decide) ?_
    refine Yicmp_eq C 54 dX3_addRoad_16 (by decide) hx (fun _ hx => ?_) (fun _ hx => ?_)
    · skip
      refine Yiconst C (-1) dX3_addRoad_54 (by decide) ?_
      exact Yiret C E dX3_addRoad_55 (ypo hx rfl rfl)
    · skip
      refine Yiload_n C dX3_addRoad_19 2 rfl rfl ?_
      refine Yiconst C 1 dX3_addRoad_20 (by decide) ?_
      refine Yicmp_lt C 54 dX3_addRoad_21 (by decide) hx (fun _ hx => ?_) (fun _ hx => ?_)
      · skip
        refine Yiconst C (-1) dX3_addRoad_54 (by decide) ?_
        exact Yiret C E dX3_addRoad_55 (ypo hx rfl rfl)
      · skip
        refine Yiload_n C dX3_addRoad_24 2 rfl rfl ?_
        refine Ybipush C 60 dX3_addRoad_25 (by decide) ?_
        refine Yicmp_gt C 54 dX3_addRoad_27 (by decide) hx (fun _ hx => ?_) (fun _ hx => ?_)
        · skip
          refine Yiconst C (-1) dX3_addRoad_54 (by decide) ?_
          exact Yiret C E dX3_addRoad_55 (ypo hx rfl rfl)
        · skip
          refine Yiload_n C dX3_addRoad_30 3 rfl rfl ?_
          refine Yiconst C 1 dX3_addRoad_31 (by decide) ?_
          refine Yicmp_lt C 54 dX3_addRoad_32 (by decide) hx (fun _ hx => ?_) (fun _ hx => ?_)
          · skip
            refine Yiconst C (-1) dX3_addRoad_54 (by decide) ?_
            exact Yiret C E dX3_addRoad_55 (ypo hx rfl rfl)
          · skip
            refine Yiload_n C dX3_addRoad_35 3 rfl rfl ?_
            refine Ysipush C 300 dX3_addRoad_36 (by decide) ?_
            refine Yicmp_gt C 54 dX3_addRoad_39 (by decide) hx (fun _ hx => ?_) (fun _ hx => ?_)
            · skip
              refine Yiconst C (-1) dX3_addRoad_54 (by decide) ?_
              exact Yiret C E dX3_addRoad_55 (ypo hx rfl rfl)
            · skip
              refine Yiload C dX3_addRoad_42 4 rfl ?_
              refine Yif_lt C 54 dX3_addRoad_44 (by decide) hx (fun _ hx => ?_) (fun _ hx => ?_)
              · skip
                refine Yiconst C (-1) dX3_addRoad_54 (by decide) ?_
                exact Yiret C E dX3_addRoad_55 (ypo hx rfl rfl)
              · skip
                refine Yiload C dX3_addRoad_47 4 rfl ?_
                refine Ybipush C 99 dX3_addRoad_49 (by decide) ?_
                refine Yicmp_le C 56 dX3_addRoad_51 (by decide) hx (fun _ hx => ?_) (fun _ hx => ?_)
                · skip
                  refine Yaload_n C dX3_addRoad_56 0 rfl rfl ?_
                  refine Yget C fg3_addRoad_40 dX3_addRoad_57 0 rfl rfl ?_
                  refine Yif_lt C 72 dX3_addRoad_60 (by decide) hx (fun _ hx => ?_) (fun _ hx => ?_)
                  · skip
                    refine Ybipush C (-3) dX3_addRoad_72 (by decide) ?_
                    exact Yiret C E dX3_addRoad_74 (ypo hx rfl rfl)
                  · skip
                    refine Yaload_n C dX3_addRoad_63 0 rfl rfl ?_
                    refine Yget C fg3_addRoad_40 dX3_addRoad_64 0 rfl rfl ?_
                    refine Ybipush C 16 dX3_addRoad_67 (by decide) ?_
                    refine Yicmp_lt C 75 dX3_addRoad_69 (by decide) hx (fun _ hx => ?_) (fun _ hx => ?_)
                    · skip
                      refine Yaload_n C dX3_addRoad_75 0 rfl rfl ?_
                      refine Yget C fg3_addRoad_18 dX3_addRoad_76 0 rfl rfl ?_
                      refine Yaload_n C dX3_addRoad_79 0 rfl rfl ?_
                      refine Yget C fg3_addRoad_40 dX3_addRoad_80 0 rfl rfl ?_
                      refine Yiload_n C dX3_addRoad_83 1 rfl rfl ?_
                      refine Ybipush C 10 dX3_addRoad_84 (by decide) ?_
                      refine Yidiv C dX3_addRoad_86 (by decide) ?_
                      refine Yiast (ws' := (w3_addRoad cI cJ cZ a0 a_danger a_flow a_from a_length a_to a_room a_pumps a_foot v_places v_roads v_danger v_flow (upd v_from v_roads.toNatClampNeg (p1 / 10)) v_length v_to)) C dX3_addRoad_87 hx 3 0 rfl rfl rfl (fun hx => ?_)
                      refine Yaload_n C dX3_addRoad_88 0 rfl rfl ?_
                      refine Yget C fg3_addRoad_21 dX3_addRoad_89 0 rfl rfl ?_
                      refine Yaload_n C dX3_addRoad_92 0 rfl rfl ?_
                      refine Yget C fg3_addRoad_40 dX3_addRoad_93 0 rfl rfl ?_
                      refine Yiload_n C dX3_addRoad_96 1 rfl rfl ?_
                      refine Ybipush C 10 dX3_addRoad_97 (by decide) ?_
                      refine Yirem C dX3_addRoad_99 (by decide) ?_
                      refine Yiast (ws' := (w3_addRoad cI cJ cZ a0 a_danger a_flow a_from a_length a_to a_room a_pumps a_foot v_places v_roads v_danger v_flow (upd v_from v_roads.toNatClampNeg (p1 / 10)) v_length (upd v_to v_roads.toNatClampNeg (p1 - p1 / 10 * 10)))) C dX3_addRoad_100 hx 5 0 rfl rfl rfl (fun hx => ?_)
                      refine Yaload_n C dX3_addRoad_101 0 rfl rfl ?_
                      refine Yget C fg3_addRoad_24 dX3_addRoad_102 0 rfl rfl ?_
                      refine Yaload_n C dX3_addRoad_105 0 rfl rfl ?_
                      refine Yget C fg3_addRoad_40 dX3_addRoad_106 0 rfl rfl ?_
                      refine Yiload_n C dX3_addRoad_109 2 rfl rfl ?_
                      refine Yiast (ws' := (w3_addRoad cI cJ cZ a0 a_danger a_flow a_from a_length a_to a_room a_pumps a_foot v_places v_roads v_danger (upd v_flow v_roads.toNatClampNeg p2) (upd v_from v_roads.toNatClampNeg (p1 / 10)) v_length (upd v_to v_roads.toNatClampNeg (p1 - p1 / 10 * 10)))) C dX3_addRoad_110 hx 2 0 rfl rfl rfl (fun hx => ?_)
                      refine Yaload_n C dX3_addRoad_111 0 rfl rfl ?_
                      refine Yget C fg3_addRoad_27 dX3_addRoad_112 0 rfl rfl ?_
                      refine Yaload_n C dX3_addRoad_115 0 rfl rfl ?_
                      refine Yget C fg3_addRoad_40 dX3_addRoad_116 0 rfl rfl ?_
                      refine Yiload_n C dX3_addRoad_119 3 rfl rfl ?_
                      refine Yiast (ws' := (w3_addRoad cI cJ cZ a0 a_danger a_flow a_from a_length a_to a_room a_pumps a_foot v_places v_roads v_danger (upd v_flow v_roads.toNatClampNeg p2) (upd v_from v_roads.toNatClampNeg (p1 / 10)) (upd v_length v_roads.toNatClampNeg p3) (upd v_to v_roads.toNatClampNeg (p1 - p1 / 10 * 10)))) C dX3_addRoad_120 hx 4 0 rfl rfl rfl (fun hx => ?_)
                      refine Yaload_n C dX3_addRoad_121 0 rfl rfl ?_
                      refine Yget C fg3_addRoad_30 dX3_addRoad_122 0 rfl rfl ?_
                      refine Yaload_n C dX3_addRoad_125 0 rfl rfl ?_
                      refine Yget C fg3_addRoad_40 dX3_addRoad_126 0 rfl rfl ?_
                      refine Yiload C dX3_addRoad_129 4 rfl ?_
                      refine Yiast (ws' := (w3_addRoad cI cJ cZ a0 a_danger a_flow a_from a_length a_to a_room a_pumps a_foot v_places v_roads (upd v_danger v_roads.toNatClampNeg p4) (upd v_flow v_roads.toNatClampNeg p2) (upd v_from v_roads.toNatClampNeg (p1 / 10)) (upd v_length v_roads.toNatClampNeg p3) (upd v_to v_roads.toNatClampNeg (p1 - p1 / 10 * 10)))) C dX3_addRoad_131 hx 1 0 rfl rfl rfl (fun hx => ?_)
                      refine Yaload_n C dX3_addRoad_132 0 rfl rfl ?_
                      refine Ydup C dX3_addRoad_133 rfl ?_
                      refine Yget C fg3_addRoad_40 dX3_addRoad_134 0 rfl rfl ?_
                      refine Yiconst C 1 dX3_addRoad_137 (by decide) ?_
                      refine Yiadd C dX3_addRoad_138 ?_
                      refine Yput (v := .int (v_roads + 1)) (ws' := (w3_addRoad cI cJ cZ a0 a_danger a_flow a_from a_length a_to a_room a_pumps a_foot v_places (v_roads + 1) (upd v_danger v_roads.toNatClampNeg p4) (upd v_flow v_roads.toNatClampNeg p2) (upd v_from v_roads.toNatClampNeg (p1 / 10)) (upd v_length v_roads.toNatClampNeg p3) (upd v_to v_roads.toNatClampNeg (p1 - p1 / 10 * 10)))) C fp3_addRoad_40 dX3_addRoad_139 0 rfl rfl rfl (Nat.le_of_ble_eq_true rfl) rfl rfl ?_
                      refine Yaload_n C dX3_addRoad_142 0 rfl rfl ?_
                      refine Yget C fg3_addRoad_40 dX3_addRoad_143 0 rfl rfl ?_
                      refine Yiconst C 1 dX3_addRoad_146 (by decide) ?_
                      refine Yisub C dX3_addRoad_147 ?_
                      exact Yiret C E dX3_addRoad_148 (ypo hx rfl rfl)
                    · skip
                      refine Ybipush C (-3) dX3_addRoad_72 (by decide) ?_
                      exact Yiret C E dX3_addRoad_74 (ypo hx rfl rfl)
                · skip
                  refine Yiconst C (-1) dX3_addRoad_54 (by decide) ?_
                  exact Yiret C E dX3_addRoad_55 (ypo hx rfl rfl)
theorem fg3_onFoot_33 : YF wsX3_onFoot RX3 33 3 9 := ⟨RX3, TX3, 10, rfl, (fun w h => List.mem_cons_of_mem _ (List.mem_append_right _ h)), by decide, List.mem_of_getElem? (i := 1) rfl⟩
theorem yf3_onFoot : (∃ Ty', wsX3_onFoot = Cond.code yX3_onFoot cX3_onFoot 3 (some .int) :: Ty') ∧ (yX3_onFoot.cls ≠ "java/lang/invoke/MethodHandle" ∧ yX3_onFoot.cls ≠ "java/lang/invoke/VarHandle" ∧ (parseMethodDescriptor yX3_onFoot.desc).map (fun d => d.parameters.length) = some 2) := ⟨⟨_, rfl⟩, by decide +kernel, by decide +kernel, by decide +kernel⟩
abbrev w3_onFoot (cI cJ cZ : ClassId) (a0 a_foot a_room a_pumps a_from a_to a_flow a_length a_danger : Nat) (v_places : Int32) (v_roads : Int32) (v_foot : Nat → Int32) : va_W := [(a0, .inr (3, [.int v_places, .int v_roads, .ref a_room, .ref a_pumps, .ref a_from, .ref a_to, .ref a_flow, .ref a_length, .ref a_danger, .ref a_foot])), (a_foot, .inl (cI, 64, .inl v_foot))]
def x3_onFoot (v_places : Int32) (v_foot : Nat → Int32) (p1 : Int32) (p2 : Int32) : Option (Int32) :=
  (x3_hasPlace v_places p1).bind fun o1 => bif o1 then ((x3_hasPlace v_places p2).bind fun o2 => bif o2 then (bif inB ((p1 * 8) + p2) 64 then (some ((v_foot ((p1 * 8) + p2).toNatClampNeg))) else none) else (some (0))) else (some (0))
set_option maxHeartbeats 4000000 in
set_option maxRecDepth 100000 in
theorem c3_onFoot (l : Launch) (D : va_G) (cI cJ cZ cS cT : ClassId) (a0 a_foot a_room a_pumps a_from a_to a_flow a_length a_danger : Nat) (v_places : Int32) (v_roads : Int32) (v_foot : Nat → Int32) (p1 : Int32) (p2 : Int32) (out : Int32) (hx : x3_onFoot v_places v_foot p1 p2 = some out) : MC l D (yT cI cJ cZ cS cT) yX3_onFoot wsX3_onFoot ({ frames := 1, cells := 0, slots := 0, locals := 21 } : Room) (0, 0) [.ref a0, .int p1, .int p2] (w3_onFoot cI cJ cZ a0 a_foot a_room a_pumps a_from a_to a_flow a_length a_danger v_places v_roads v_foot) (POd (fun o : Int32 => some (.int o)) (fun o : Int32 => (w3_onFoot cI cJ cZ a0 a_foot a_room a_pumps a_from a_to a_flow a_length a_danger v_places v_roads v_foot)) out) := by
  refine MC.intro (cc := cX3_onFoot) (nL := 3) (ret := (some .int)) (own := RX3) (lv := [(0, .ref a0), (1, .int p1), (2, .int p2)]) (by decide) rfl rfl (Nat.le_of_ble_eq_true rfl) rfl (fun X C E => ?_)
  unfold x3_onFoot at hx
  refine Yaload_n C dX3_onFoot_0 0 rfl rfl ?_
  refine Yiload_n C dX3_onFoot_1 1 rfl rfl ?_
  obtain ⟨o1, ho1, hx⟩ := ybnd hx
  refine YcallVd (ws' := (w3_onFoot cI cJ cZ a0 a_foot a_room a_pumps a_from a_to a_flow a_length a_danger v_places v_roads v_foot)) (st' := [.int (bI o1)]) (st := []) (as := [.int p1]) (b := a0) (ci := 3) C [0] dX3_onFoot_2 (c3_hasPlace l D cI cJ cZ cS cT a0 a_room a_pumps a_from a_to a_flow a_length a_danger a_foot v_places v_roads p1 o1 ho1) gX3_onFoot_X3_hasPlace rfl ⟨yf3_hasPlace.1, yf3_hasPlace.2, Nat.le_of_ble_eq_true rfl, Nat.le_of_ble_eq_true rfl, rfl, rfl⟩ rfl 0 rfl (by decide) ⟨Nat.zero_le _, Nat.zero_le _⟩ (Nat.le_of_ble_eq_true rfl) rfl rfl rfl rfl ?_
  refine Yif_eq_b C 30 dX3_onFoot_5 (by decide) hx (fun _ hx => ?_) (fun _ hx => ?_)
  · skip
    refine Yiconst C 0 dX3_onFoot_30 (by decide) ?_
    exact Yiret C E dX3_onFoot_31 (ypo hx rfl rfl)
  · skip
    refine Yaload_n C dX3_onFoot_8 0 rfl rfl ?_
    refine Yiload_n C dX3_onFoot_9 2 rfl rfl ?_
    obtain ⟨o2, ho2, hx⟩ := ybnd hx
    refine YcallVd (ws' := (w3_onFoot cI cJ cZ a0 a_foot a_room a_pumps a_from a_to a_flow a_length a_danger v_places v_roads v_foot)) (st' := [.int (bI o2)]) (st := []) (as := [.int p2]) (b := a0) (ci := 3) C [0] dX3_onFoot_10 (c3_hasPlace l D cI cJ cZ cS cT a0 a_room a_pumps a_from a_to a_flow a_length a_danger a_foot v_places v_roads p2 o2 ho2) gX3_onFoot_X3_hasPlace rfl ⟨yf3_hasPlace.1, yf3_hasPlace.2, Nat.le_of_ble_eq_true rfl, Nat.le_of_ble_eq_true rfl, rfl, rfl⟩ rfl 0 rfl (by decide) ⟨Nat.zero_le _, Nat.zero_le _⟩ (Nat.le_of_ble_eq_true rfl) rfl rfl rfl rfl ?_
    refine Yif_eq_b C 30 dX3_onFoot_13 (by decide) hx (fun _ hx => ?_) (fun _ hx => ?_)
    · skip
      refine Yiconst C 0 dX3_onFoot_30 (by decide) ?_
      exact Yiret C E dX3_onFoot_31 (ypo hx rfl rfl)
    · skip
      refine Yaload_n C dX3_onFoot_16 0 rfl rfl ?_
      refine Yget C fg3_onFoot_33 dX3_onFoot_17 0 rfl rfl ?_
      refine Yiload_n C dX3_onFoot_20 1 rfl rfl ?_
      refine Ybipush C 8 dX3_onFoot_21 (by decide) ?_
      refine Yimul C dX3_onFoot_23 ?_
      refine Yiload_n C dX3_onFoot_24 2 rfl rfl ?_
      refine Yiadd C dX3_onFoot_25 ?_
      refine Yiald C dX3_onFoot_26 hx 1 0 rfl rfl (fun hx => ?_)
      refine Ygoto C 31 dX3_onFoot_27 (by decide) ?_
      exact Yiret C E dX3_onFoot_31 (ypo hx rfl rfl)
theorem fg3_setOnFoot_33 : YF wsX3_setOnFoot RX3 33 3 9 := ⟨RX3, TX3, 10, rfl, (fun w h => List.mem_cons_of_mem _ (List.mem_append_right _ h)), by decide, List.mem_of_getElem? (i := 1) rfl⟩
theorem yf3_setOnFoot : (∃ Ty', wsX3_setOnFoot = Cond.code yX3_setOnFoot cX3_setOnFoot 4 none :: Ty') ∧ (yX3_setOnFoot.cls ≠ "java/lang/invoke/MethodHandle" ∧ yX3_setOnFoot.cls ≠ "java/lang/invoke/VarHandle" ∧ (parseMethodDescriptor yX3_setOnFoot.desc).map (fun d => d.parameters.length) = some 3) := ⟨⟨_, rfl⟩, by decide +kernel, by decide +kernel, by decide +kernel⟩
abbrev w3_setOnFoot (cI cJ cZ : ClassId) (a0 a_foot a_room a_pumps a_from a_to a_flow a_length a_danger : Nat) (v_places : Int32) (v_roads : Int32) (v_foot : Nat → Int32) : va_W := [(a0, .inr (3, [.int v_places, .int v_roads, .ref a_room, .ref a_pumps, .ref a_from, .ref a_to, .ref a_flow, .ref a_length, .ref a_danger, .ref a_foot])), (a_foot, .inl (cI, 64, .inl v_foot))]
def x3_setOnFoot (v_places : Int32) (v_foot : Nat → Int32) (p1 : Int32) (p2 : Int32) (p3 : Int32) : Option ((Nat → Int32)) :=
  (x3_hasPlace v_places p1).bind fun o1 => bif o1 then ((x3_hasPlace v_places p2).bind fun o2 => bif o2 then (bif inB ((p1 * 8) + p2) 64 then (some ((upd v_foot ((p1 * 8) + p2).toNatClampNeg p3))) else none) else (some (v_foot))) else (some (v_foot))
set_option maxHeartbeats 4000000 in
set_option maxRecDepth 100000 in
theorem c3_setOnFoot (l : Launch) (D : va_G) (cI cJ cZ cS cT : ClassId) (a0 a_foot a_room a_pumps a_from a_to a_flow a_length a_danger : Nat) (v_places : Int32) (v_roads : Int32) (v_foot : Nat → Int32) (p1 : Int32) (p2 : Int32) (p3 : Int32) (out : (Nat → Int32)) (hx : x3_setOnFoot v_places v_foot p1 p2 p3 = some out) : MC l D (yT cI cJ cZ cS cT) yX3_setOnFoot wsX3_setOnFoot ({ frames := 1, cells := 0, slots := 0, locals := 21 } : Room) (0, 0) [.ref a0, .int p1, .int p2, .int p3] (w3_setOnFoot cI cJ cZ a0 a_foot a_room a_pumps a_from a_to a_flow a_length a_danger v_places v_roads v_foot) (POd (fun o : (Nat → Int32) => none) (fun o : (Nat → Int32) => (w3_setOnFoot cI cJ cZ a0 a_foot a_room a_pumps a_from a_to a_flow a_length a_danger v_places v_roads o)) out) := by
  refine MC.intro (cc := cX3_setOnFoot) (nL := 4) (ret := none) (own := RX3) (lv := [(0, .ref a0), (1, .int p1), (2, .int p2), (3, .int p3)]) (by decide) rfl rfl (Nat.le_of_ble_eq_true rfl) rfl (fun X C E => ?_)
  unfold x3_setOnFoot at hx
  refine Yaload_n C dX3_setOnFoot_0 0 rfl rfl ?_
  refine Yiload_n C dX3_setOnFoot_1 1 rfl rfl ?_
  obtain ⟨o1, ho1, hx⟩ := ybnd hx
  refine YcallVd (ws' := (w3_setOnFoot cI cJ cZ a0 a_foot a_room a_pumps a_from a_to a_flow a_length a_danger v_places v_roads v_foot)) (st' := [.int (bI o1)]) (st := []) (as := [.int p1]) (b := a0) (ci := 3) C [0] dX3_setOnFoot_2 (c3_hasPlace l D cI cJ cZ cS cT a0 a_room a_pumps a_from a_to a_flow a_length a_danger a_foot v_places v_roads p1 o1 ho1) gX3_setOnFoot_X3_hasPlace rfl ⟨yf3_hasPlace.1, yf3_hasPlace.2, Nat.le_of_ble_eq_true rfl, Nat.le_of_ble_eq_true rfl, rfl, rfl⟩ rfl 0 rfl (by decide) ⟨Nat.zero_le _, Nat.zero_le _⟩ (Nat.le_of_ble_eq_true rfl) rfl rfl rfl rfl ?_
  refine Yif_eq_b C 28 dX3_setOnFoot_5 (by decide) hx (fun _ hx => ?_) (fun _ hx => ?_)
  · skip
    exact Yvret C E dX3_setOnFoot_28 (ypo hx rfl rfl)
  · skip
    refine Yaload_n C dX3_setOnFoot_8 0 rfl rfl ?_
    refine Yiload_n C dX3_setOnFoot_9 2 rfl rfl ?_
    obtain ⟨o2, ho2, hx⟩ := ybnd hx
    refine YcallVd (ws' := (w3_setOnFoot cI cJ cZ a0 a_foot a_room a_pumps a_from a_to a_flow a_length a_danger v_places v_roads v_foot)) (st' := [.int (bI o2)]) (st := []) (as := [.int p2]) (b := a0) (ci := 3) C [0] dX3_setOnFoot_10 (c3_hasPlace l D cI cJ cZ cS cT a0 a_room a_pumps a_from a_to a_flow a_length a_danger a_foot v_places v_roads p2 o2 ho2) gX3_setOnFoot_X3_hasPlace rfl ⟨yf3_hasPlace.1, yf3_hasPlace.2, Nat.le_of_ble_eq_true rfl, Nat.le_of_ble_eq_true rfl, rfl, rfl⟩ rfl 0 rfl (by decide) ⟨Nat.zero_le _, Nat.zero_le _⟩ (Nat.le_of_ble_eq_true rfl) rfl rfl rfl rfl ?_
    refine Yif_eq_b C 28 dX3_setOnFoot_13 (by decide) hx (fun _ hx => ?_) (fun _ hx => ?_)
    · skip
      exact Yvret C E dX3_setOnFoot_28 (ypo hx rfl rfl)
    · skip
      refine Yaload_n C dX3_setOnFoot_16 0 rfl rfl ?_
      refine Yget C fg3_setOnFoot_33 dX3_setOnFoot_17 0 rfl rfl ?_
      refine Yiload_n C dX3_setOnFoot_20 1 rfl rfl ?_
      refine Ybipush C 8 dX3_setOnFoot_21 (by decide) ?_
      refine Yimul C dX3_setOnFoot_23 ?_
      refine Yiload_n C dX3_setOnFoot_24 2 rfl rfl ?_
      refine Yiadd C dX3_setOnFoot_25 ?_
      refine Yiload_n C dX3_setOnFoot_26 3 rfl rfl ?_
      refine Yiast (ws' := (w3_setOnFoot cI cJ cZ a0 a_foot a_room a_pumps a_from a_to a_flow a_length a_danger v_places v_roads (upd v_foot ((p1 * 8) + p2).toNatClampNeg p3))) C dX3_setOnFoot_27 hx 1 0 rfl rfl rfl (fun hx => ?_)
      exact Yvret C E dX3_setOnFoot_28 (ypo hx rfl rfl)
theorem fg3_cars_24 : YF wsX3_cars RX3 24 3 6 := ⟨RX3, TX3, 10, rfl, (fun w h => List.mem_cons_of_mem _ (List.mem_append_right _ h)), by decide, List.mem_of_getElem? (i := 1) rfl⟩
theorem yf3_cars : (∃ Ty', wsX3_cars = Cond.code yX3_cars cX3_cars 2 (some .int) :: Ty') ∧ (yX3_cars.cls ≠ "java/lang/invoke/MethodHandle" ∧ yX3_cars.cls ≠ "java/lang/invoke/VarHandle" ∧ (parseMethodDescriptor yX3_cars.desc).map (fun d => d.parameters.length) = some 1) := ⟨⟨_, rfl⟩, by decide +kernel, by decide +kernel, by decide +kernel⟩
abbrev w3_cars (cI cJ cZ : ClassId) (a0 a_flow a_room a_pumps a_from a_to a_length a_danger a_foot : Nat) (v_places : Int32) (v_roads : Int32) (v_flow : Nat → Int32) : va_W := [(a0, .inr (3, [.int v_places, .int v_roads, .ref a_room, .ref a_pumps, .ref a_from, .ref a_to, .ref a_flow, .ref a_length, .ref a_danger, .ref a_foot])), (a_flow, .inl (cI, 16, .inl v_flow))]
def x3_cars (v_flow : Nat → Int32) (p1 : Int32) : Option (Int32) :=
  bif inB p1 16 then (some ((24 * (v_flow p1.toNatClampNeg)))) else none
set_option maxHeartbeats 4000000 in
set_option maxRecDepth 100000 in
theorem c3_cars (l : Launch) (D : va_G) (cI cJ cZ cS cT : ClassId) (a0 a_flow a_room a_pumps a_from a_to a_length a_danger a_foot : Nat) (v_places : Int32) (v_roads : Int32) (v_flow : Nat → Int32) (p1 : Int32) (out : Int32) (hx : x3_cars v_flow p1 = some out) : MC l D (yT cI cJ cZ cS cT) yX3_cars wsX3_cars ({ frames := 0, cells := 0, slots := 0, locals := 0 } : Room) (0, 0) [.ref a0, .int p1] (w3_cars cI cJ cZ a0 a_flow a_room a_pumps a_from a_to a_length a_danger a_foot v_places v_roads v_flow) (POd (fun o : Int32 => some (.int o)) (fun o : Int32 => (w3_cars cI cJ cZ a0 a_flow a_room a_pumps a_from a_to a_length a_danger a_foot v_places v_roads v_flow)) out) := by
  refine MC.intro (cc := cX3_cars) (nL := 2) (ret := (some .int)) (own := RX3) (lv := [(0, .ref a0), (1, .int p1)]) (by decide) rfl rfl (Nat.le_of_ble_eq_true rfl) rfl (fun X C E => ?_)
  unfold x3_cars at hx
  refine Ybipush C 24 dX3_cars_0 (by decide) ?_
  refine Yaload_n C dX3_cars_2 0 rfl rfl ?_
  refine Yget C fg3_cars_24 dX3_cars_3 0 rfl rfl ?_
  refine Yiload_n C dX3_cars_6 1 rfl rfl ?_
  refine Yiald C dX3_cars_7 hx 1 0 rfl rfl (fun hx => ?_)
  refine Yimul C dX3_cars_8 ?_
  exact Yiret C E dX3_cars_9 (ypo hx rfl rfl)
theorem fg3_passes_24 : YF wsX3_passes RX3 24 3 6 := ⟨RX3, TX3, 10, rfl, (fun w h => List.mem_cons_of_mem _ (List.mem_append_right _ h)), by decide, List.mem_of_getElem? (i := 1) rfl⟩
theorem yf3_passes : (∃ Ty', wsX3_passes = Cond.code yX3_passes cX3_passes 4 (some .int) :: Ty') ∧ (yX3_passes.cls ≠ "java/lang/invoke/MethodHandle" ∧ yX3_passes.cls ≠ "java/lang/invoke/VarHandle" ∧ (parseMethodDescriptor yX3_passes.desc).map (fun d => d.parameters.length) = some 2) := ⟨⟨_, rfl⟩, by decide +kernel, by decide +kernel, by decide +kernel⟩
abbrev w3_passes (cI cJ cZ : ClassId) (a0 a_flow a_room a_pumps a_from a_to a_length a_danger a_foot : Nat) (v_places : Int32) (v_roads : Int32) (v_flow : Nat → Int32) : va_W := [(a0, .inr (3, [.int v_places, .int v_roads, .ref a_room, .ref a_pumps, .ref a_from, .ref a_to, .ref a_flow, .ref a_length, .ref a_danger, .ref a_foot])), (a_flow, .inl (cI, 16, .inl v_flow))]
def x3_passes (v_flow : Nat → Int32) (p1 : Int32) (p2 : Int32) : Option (Int32) :=
  bif inB p1 16 then (if 1 ≤ (v_flow p1.toNatClampNeg) then (if (v_flow p1.toNatClampNeg) = 0 then none else (some (((60 * p2) / (v_flow p1.toNatClampNeg))))) else (some (1440))) else none
set_option maxHeartbeats 4000000 in
set_option maxRecDepth 100000 in
theorem c3_passes (l : Launch) (D : va_G) (cI cJ cZ cS cT : ClassId) (a0 a_flow a_room a_pumps a_from a_to a_length a_danger a_foot : Nat) (v_places : Int32) (v_roads : Int32) (v_flow : Nat → Int32) (p1 : Int32) (p2 : Int32) (out : Int32) (hx : x3_passes v_flow p1 p2 = some out) : MC l D (yT cI cJ cZ cS cT) yX3_passes wsX3_passes ({ frames := 0, cells := 0, slots := 0, locals := 0 } : Room) (0, 0) [.ref a0, .int p1, .int p2] (w3_passes cI cJ cZ a0 a_flow a_room a_pumps a_from a_to a_length a_danger a_foot v_places v_roads v_flow) (POd (fun o : Int32 => some (.int o)) (fun o : Int32 => (w3_passes cI cJ cZ a0 a_flow a_room a_pumps a_from a_to a_length a_danger a_foot v_places v_roads v_flow)) out) := by
  refine MC.intro (cc := cX3_passes) (nL := 4) (ret := (some .int)) (own := RX3) (lv := [(0, .ref a0), (1, .int p1), (2, .int p2)]) (by decide) rfl rfl (Nat.le_of_ble_eq_true rfl) rfl (fun X C E => ?_)
  unfold x3_passes at hx
  refine Yaload_n C dX3_passes_0 0 rfl rfl ?_
  refine Yget C fg3_passes_24 dX3_passes_1 0 rfl rfl ?_
  refine Yiload_n C dX3_passes_4 1 rfl rfl ?_
  refine Yiald C dX3_passes_5 hx 1 0 rfl rfl (fun hx => ?_)
  refine Yistore_n (lv' := [(0, .ref a0), (1, .int p1), (2, .int p2), (3, .int (v_flow p1.toNatClampNeg))]) C dX3_passes_6 rfl (by decide) rfl ?_
  refine Yiload_n C dX3_passes_7 3 rfl rfl ?_
  refine Yiconst C 1 dX3_passes_8 (by decide) ?_
  refine Yicmp_ge C 18 dX3_passes_9 (by decide) hx (fun _ hx => ?_) (fun _ hx => ?_)
  · skip
    refine Ybipush C 60 dX3_passes_18 (by decide) ?_
    refine Yiload_n C dX3_passes_20 2 rfl rfl ?_
    refine Yimul C dX3_passes_21 ?_
    refine Yiload_n C dX3_passes_22 3 rfl rfl ?_
    refine yite hx (fun _ hx => by cases hx) (fun hne hx => ?_)
    refine Yidiv C dX3_passes_23 hne ?_
    exact Yiret C E dX3_passes_24 (ypo hx rfl rfl)
  · skip
    refine Ysipush C 1440 dX3_passes_12 (by decide) ?_
    refine Ygoto C 24 dX3_passes_15 (by decide) ?_
    exact Yiret C E dX3_passes_24 (ypo hx rfl rfl)
theorem fg3_firstCarSince_24 : YF wsX3_firstCarSince RX3 24 3 6 := ⟨RX3, TX3, 10, rfl, (fun w h => List.mem_cons_of_mem _ (List.mem_append_right _ h)), by decide, List.mem_of_getElem? (i := 1) rfl⟩
theorem yf3_firstCarSince : (∃ Ty', wsX3_firstCarSince = Cond.code yX3_firstCarSince cX3_firstCarSince 3 (some .int) :: Ty') ∧ (yX3_firstCarSince.cls ≠ "java/lang/invoke/MethodHandle" ∧ yX3_firstCarSince.cls ≠ "java/lang/invoke/VarHandle" ∧ (parseMethodDescriptor yX3_firstCarSince.desc).map (fun d => d.parameters.length) = some 2) := ⟨⟨_, rfl⟩, by decide +kernel, by decide +kernel, by decide +kernel⟩
abbrev w3_firstCarSince (cI cJ cZ : ClassId) (a0 a_flow a_room a_pumps a_from a_to a_length a_danger a_foot : Nat) (v_places : Int32) (v_roads : Int32) (v_flow : Nat → Int32) : va_W := [(a0, .inr (3, [.int v_places, .int v_roads, .ref a_room, .ref a_pumps, .ref a_from, .ref a_to, .ref a_flow, .ref a_length, .ref a_danger, .ref a_foot])), (a_flow, .inl (cI, 16, .inl v_flow))]
def x3_firstCarSince (v_flow : Nat → Int32) (p1 : Int32) (p2 : Int32) : Option (Int32) :=
  bif inB p1 16 then (some ((((p2 * (v_flow p1.toNatClampNeg)) + 59) / 60))) else none
set_option maxHeartbeats 4000000 in
set_option maxRecDepth 100000 in
theorem c3_firstCarSince (l : Launch) (D : va_G) (cI cJ cZ cS cT : ClassId) (a0 a_flow a_room a_pumps a_from a_to a_length a_danger a_foot : Nat) (v_places : Int32) (v_roads : Int32) (v_flow : Nat → Int32) (p1 : Int32) (p2 : Int32) (out : Int32) (hx : x3_firstCarSince v_flow p1 p2 = some out) : MC l D (yT cI cJ cZ cS cT) yX3_firstCarSince wsX3_firstCarSince ({ frames := 0, cells := 0, slots := 0, locals := 0 } : Room) (0, 0) [.ref a0, .int p1, .int p2] (w3_firstCarSince cI cJ cZ a0 a_flow a_room a_pumps a_from a_to a_length a_danger a_foot v_places v_roads v_flow) (POd (fun o : Int32 => some (.int o)) (fun o : Int32 => (w3_firstCarSince cI cJ cZ a0 a_flow a_room a_pumps a_from a_to a_length a_danger a_foot v_places v_roads v_flow)) out) := by
  refine MC.intro (cc := cX3_firstCarSince) (nL := 3) (ret := (some .int)) (own := RX3) (lv := [(0, .ref a0), (1, .int p1), (2, .int p2)]) (by decide) rfl rfl (Nat.le_of_ble_eq_true rfl) rfl (fun X C E => ?_)
  unfold x3_firstCarSince at hx
  refine Yiload_n C dX3_firstCarSince_0 2 rfl rfl ?_
  refine Yaload_n C dX3_firstCarSince_1 0 rfl rfl ?_
  refine Yget C fg3_firstCarSince_24 dX3_firstCarSince_2 0 rfl rfl ?_
  refine Yiload_n C dX3_firstCarSince_5 1 rfl rfl ?_
  refine Yiald C dX3_firstCarSince_6 hx 1 0 rfl rfl (fun hx => ?_)
  refine Yimul C dX3_firstCarSince_7 ?_
  refine Ybipush C 59 dX3_firstCarSince_8 (by decide) ?_
  refine Yiadd C dX3_firstCarSince_10 ?_
  refine Ybipush C 60 dX3_firstCarSince_11 (by decide) ?_
  refine Yidiv C dX3_firstCarSince_13 (by decide) ?_
  exact Yiret C E dX3_firstCarSince_14 (ypo hx rfl rfl)
theorem yf3_hasCar : (∃ Ty', wsX3_hasCar = Cond.code yX3_hasCar cX3_hasCar 3 (some .boolean) :: Ty') ∧ (yX3_hasCar.cls ≠ "java/lang/invoke/MethodHandle" ∧ yX3_hasCar.cls ≠ "java/lang/invoke/VarHandle" ∧ (parseMethodDescriptor yX3_hasCar.desc).map (fun d => d.parameters.length) = some 2) := ⟨⟨_, rfl⟩, by decide +kernel, by decide +kernel, by decide +kernel⟩
abbrev w3_hasCar (cI cJ cZ : ClassId) (a0 a_flow a_room a_pumps a_from a_to a_length a_danger a_foot : Nat) (v_places : Int32) (v_roads : Int32) (v_flow : Nat → Int32) : va_W := [(a0, .inr (3, [.int v_places, .int v_roads, .ref a_room, .ref a_pumps, .ref a_from, .ref a_to, .ref a_flow, .ref a_length, .ref a_danger, .ref a_foot])), (a_flow, .inl (cI, 16, .inl v_flow))]
def x3_hasCar (v_roads : Int32) (v_flow : Nat → Int32) (p1 : Int32) (p2 : Int32) : Option (Bool) :=
  (x3_hasRoad v_roads p1).bind fun o1 => bif o1 then (if p2 < 0 then (some (false)) else ((x3_cars v_flow p1).bind fun o2 => if o2 ≤ p2 then (some (false)) else (some (true)))) else (some (false))
set_option maxHeartbeats 4000000 in
set_option maxRecDepth 100000 in
theorem c3_hasCar (l : Launch) (D : va_G) (cI cJ cZ cS cT : ClassId) (a0 a_flow a_room a_pumps a_from a_to a_length a_danger a_foot : Nat) (v_places : Int32) (v_roads : Int32) (v_flow : Nat → Int32) (p1 : Int32) (p2 : Int32) (out : Bool) (hx : x3_hasCar v_roads v_flow p1 p2 = some out) : MC l D (yT cI cJ cZ cS cT) yX3_hasCar wsX3_hasCar ({ frames := 1, cells := 0, slots := 0, locals := 21 } : Room) (0, 0) [.ref a0, .int p1, .int p2] (w3_hasCar cI cJ cZ a0 a_flow a_room a_pumps a_from a_to a_length a_danger a_foot v_places v_roads v_flow) (POd (fun o : Bool => some (.int (bI o))) (fun o : Bool => (w3_hasCar cI cJ cZ a0 a_flow a_room a_pumps a_from a_to a_length a_danger a_foot v_places v_roads v_flow)) out) := by
  refine MC.intro (cc := cX3_hasCar) (nL := 3) (ret := (some .boolean)) (own := RX3) (lv := [(0, .ref a0), (1, .int p1), (2, .int p2)]) (by decide) rfl rfl (Nat.le_of_ble_eq_true rfl) rfl (fun X C E => ?_)
  unfold x3_hasCar at hx
  refine Yaload_n C dX3_hasCar_0 0 rfl rfl ?_
  refine Yiload_n C dX3_hasCar_1 1 rfl rfl ?_
  obtain ⟨o1, ho1, hx⟩ := ybnd hx
  refine YcallVd (ws' := (w3_hasCar cI cJ cZ a0 a_flow a_room a_pumps a_from a_to a_length a_danger a_foot v_places v_roads v_flow)) (st' := [.int (bI o1)]) (st := []) (as := [.int p1]) (b := a0) (ci := 3) C [0] dX3_hasCar_2 (c3_hasRoad l D cI cJ cZ cS cT a0 a_room a_pumps a_from a_to a_flow a_length a_danger a_foot v_places v_roads p1 o1 ho1) gX3_hasCar_X3_hasRoad rfl ⟨yf3_hasRoad.1, yf3_hasRoad.2, Nat.le_of_ble_eq_true rfl, Nat.le_of_ble_eq_true rfl, rfl, rfl⟩ rfl 0 rfl (by decide) ⟨Nat.zero_le _, Nat.zero_le _⟩ (Nat.le_of_ble_eq_true rfl) rfl rfl rfl rfl ?_
  refine Yif_eq_b C 25 dX3_hasCar_5 (by decide) hx (fun _ hx => ?_) (fun _ hx => ?_)
  · skip
    refine Yiconst C 0 dX3_hasCar_25 (by decide) ?_
    exact Yzret (b := false) C E dX3_hasCar_26 (ypo hx rfl rfl)
  · skip
    refine Yiload_n C dX3_hasCar_8 2 rfl rfl ?_
    refine Yif_lt C 25 dX3_hasCar_9 (by decide) hx (fun _ hx => ?_) (fun _ hx => ?_)
    · skip
      refine Yiconst C 0 dX3_hasCar_25 (by decide) ?_
      exact Yzret (b := false) C E dX3_hasCar_26 (ypo hx rfl rfl)
    · skip
      refine Yiload_n C dX3_hasCar_12 2 rfl rfl ?_
      refine Yaload_n C dX3_hasCar_13 0 rfl rfl ?_
      refine Yiload_n C dX3_hasCar_14 1 rfl rfl ?_
      obtain ⟨o2, ho2, hx⟩ := ybnd hx
      refine YcallVd (ws' := (w3_hasCar cI cJ cZ a0 a_flow a_room a_pumps a_from a_to a_length a_danger a_foot v_places v_roads v_flow)) (st' := [.int o2, .int p2]) (st := [.int p2]) (as := [.int p1]) (b := a0) (ci := 3) C [0, 1] dX3_hasCar_15 (c3_cars l D cI cJ cZ cS cT a0 a_flow a_room a_pumps a_from a_to a_length a_danger a_foot v_places v_roads v_flow p1 o2 ho2) gX3_hasCar_X3_cars rfl ⟨yf3_cars.1, yf3_cars.2, Nat.le_of_ble_eq_true rfl, Nat.le_of_ble_eq_true rfl, rfl, rfl⟩ rfl 0 rfl (by decide) ⟨Nat.zero_le _, Nat.zero_le _⟩ (Nat.le_of_ble_eq_true rfl) rfl rfl rfl rfl ?_
      refine Yicmp_ge C 25 dX3_hasCar_18 (by decide) hx (fun _ hx => ?_) (fun _ hx => ?_)
      · skip
        refine Yiconst C 0 dX3_hasCar_25 (by decide) ?_
        exact Yzret (b := false) C E dX3_hasCar_26 (ypo hx rfl rfl)
      · skip
        refine Yiconst C 1 dX3_hasCar_21 (by decide) ?_
        refine Ygoto C 26 dX3_hasCar_22 (by decide) ?_
        exact Yzret (b := true) C E dX3_hasCar_26 (ypo hx rfl rfl)
theorem fg3_hasDanger_40 : YF wsX3_hasDanger RX3 40 3 1 := ⟨RX3, TX3, 10, rfl, (fun w h => List.mem_cons_of_mem _ (List.mem_append_right _ h)), by decide, List.mem_of_getElem? (i := 1) rfl⟩
theorem fg3_hasDanger_30 : YF wsX3_hasDanger RX3 30 3 8 := ⟨RX3, TX3, 10, rfl, (fun w h => List.mem_cons_of_mem _ (List.mem_append_right _ h)), by decide, List.mem_of_getElem? (i := 2) rfl⟩
theorem yf3_hasDanger : (∃ Ty', wsX3_hasDanger = Cond.code yX3_hasDanger cX3_hasDanger 3 (some .boolean) :: Ty') ∧ (yX3_hasDanger.cls ≠ "java/lang/invoke/MethodHandle" ∧ yX3_hasDanger.cls ≠ "java/lang/invoke/VarHandle" ∧ (parseMethodDescriptor yX3_hasDanger.desc).map (fun d => d.parameters.length) = some 1) := ⟨⟨_, rfl⟩, by decide +kernel, by decide +kernel, by decide +kernel⟩
abbrev w3_hasDanger (cI cJ cZ : ClassId) (a0 a_danger a_room a_pumps a_from a_to a_flow a_length a_foot : Nat) (v_places : Int32) (v_roads : Int32) (v_danger : Nat → Int32) : va_W := [(a0, .inr (3, [.int v_places, .int v_roads, .ref a_room, .ref a_pumps, .ref a_from, .ref a_to, .ref a_flow, .ref a_length, .ref a_danger, .ref a_foot])), (a_danger, .inl (cI, 16, .inl v_danger))]
def x3_hasDanger_2  (v_roads : Int32) (v_danger : Nat → Int32) (p1 : Int32) : Nat → Int32 → Option (Bool)
  | 0, _ => none
  | n + 1, l2 =>
    if v_roads ≤ l2 then (some (false)) else (bif inB l2 16 then (if (v_danger l2.toNatClampNeg) = p1 then (some (true)) else (x3_hasDanger_2 v_roads v_danger p1 n (l2 + 1))) else none)
def x3_hasDanger (v_roads : Int32) (v_danger : Nat → Int32) (p1 : Int32) : Option (Bool) :=
  x3_hasDanger_2  v_roads v_danger p1 yN 0
set_option maxHeartbeats 4000000 in
set_option maxRecDepth 100000 in
theorem c3_hasDanger (l : Launch) (D : va_G) (cI cJ cZ cS cT : ClassId) (a0 a_danger a_room a_pumps a_from a_to a_flow a_length a_foot : Nat) (v_places : Int32) (v_roads : Int32) (v_danger : Nat → Int32) (p1 : Int32) (out : Bool) (hx : x3_hasDanger v_roads v_danger p1 = some out) : MC l D (yT cI cJ cZ cS cT) yX3_hasDanger wsX3_hasDanger ({ frames := 0, cells := 0, slots := 0, locals := 0 } : Room) (0, 0) [.ref a0, .int p1] (w3_hasDanger cI cJ cZ a0 a_danger a_room a_pumps a_from a_to a_flow a_length a_foot v_places v_roads v_danger) (POd (fun o : Bool => some (.int (bI o))) (fun o : Bool => (w3_hasDanger cI cJ cZ a0 a_danger a_room a_pumps a_from a_to a_flow a_length a_foot v_places v_roads v_danger)) out) := by
  refine MC.intro (cc := cX3_hasDanger) (nL := 3) (ret := (some .boolean)) (own := RX3) (lv := [(0, .ref a0), (1, .int p1)]) (by decide) rfl rfl (Nat.le_of_ble_eq_true rfl) rfl (fun X C E => ?_)
  unfold x3_hasDanger at hx
  have b2 : ∀ (n2 : Nat) (l2 : Int32), x3_hasDanger_2  v_roads v_danger p1 n2 l2 = some out → Y X (0, 0) (w3_hasDanger cI cJ cZ a0 a_danger a_room a_pumps a_from a_to a_flow a_length a_foot v_places v_roads v_danger) [(0, .ref a0), (1, .int p1), (2, .int l2)] 2 [] := by
    intro n2
    induction n2 with
    | zero =>
      intro l2 hx
      rw [x3_hasDanger_2] at hx
      cases hx
    | succ n2 ih2 =>
      intro l2 hx
      rw [x3_hasDanger_2] at hx
      refine Yiload_n C dX3_hasDanger_2 2 rfl rfl ?_
      refine Yaload_n C dX3_hasDanger_3 0 rfl rfl ?_
      refine Yget C fg3_hasDanger_40 dX3_hasDanger_4 0 rfl rfl ?_
      refine Yicmp_ge C 28 dX3_hasDanger_7 (by decide) hx (fun _ hx => ?_) (fun _ hx => ?_)
      · skip
        refine Yiconst C 0 dX3_hasDanger_28 (by decide) ?_
        exact Yzret (b := false) C E dX3_hasDanger_29 (ypo hx rfl rfl)
      · skip
        refine Yaload_n C dX3_hasDanger_10 0 rfl rfl ?_
        refine Yget C fg3_hasDanger_30 dX3_hasDanger_11 0 rfl rfl ?_
        refine Yiload_n C dX3_hasDanger_14 2 rfl rfl ?_
        refine Yiald C dX3_hasDanger_15 hx 1 0 rfl rfl (fun hx => ?_)
        refine Yiload_n C dX3_hasDanger_16 1 rfl rfl ?_
        refine Yicmp_ne C 22 dX3_hasDanger_17 (by decide) hx (fun _ hx => ?_) (fun _ hx => ?_)
        · skip
          refine Yiinc (v := l2 + 1) (lv' := [(0, .ref a0), (1, .int p1), (2, .int (l2 + 1))]) C dX3_hasDanger_22 2 rfl rfl (by decide) rfl ?_
          refine Ygoto C 2 dX3_hasDanger_25 (by decide) ?_
          exact ih2 (l2 + 1) hx
        · skip
          refine Yiconst C 1 dX3_hasDanger_20 (by decide) ?_
          exact Yzret (b := true) C E dX3_hasDanger_21 (ypo hx rfl rfl)
  refine Yiconst C 0 dX3_hasDanger_0 (by decide) ?_
  refine Yistore_n (lv' := [(0, .ref a0), (1, .int p1), (2, .int 0)]) C dX3_hasDanger_1 rfl (by decide) rfl ?_
  exact b2  yN 0 hx
theorem fg3_valueOf_30 : YF wsX3_valueOf RX3 30 3 8 := ⟨RX3, TX3, 10, rfl, (fun w h => List.mem_cons_of_mem _ (List.mem_append_right _ h)), by decide, List.mem_of_getElem? (i := 3) rfl⟩
theorem fg3_valueOf_24 : YF wsX3_valueOf RX3 24 3 6 := ⟨RX3, TX3, 10, rfl, (fun w h => List.mem_cons_of_mem _ (List.mem_append_right _ h)), by decide, List.mem_of_getElem? (i := 2) rfl⟩
theorem fg3_valueOf_9 : YF wsX3_valueOf RX3 9 3 2 := ⟨RX3, TX3, 10, rfl, (fun w h => List.mem_cons_of_mem _ (List.mem_append_right _ h)), by decide, List.mem_of_getElem? (i := 1) rfl⟩
theorem yf3_valueOf : (∃ Ty', wsX3_valueOf = Cond.code yX3_valueOf cX3_valueOf 3 (some .int) :: Ty') ∧ (yX3_valueOf.cls ≠ "java/lang/invoke/MethodHandle" ∧ yX3_valueOf.cls ≠ "java/lang/invoke/VarHandle" ∧ (parseMethodDescriptor yX3_valueOf.desc).map (fun d => d.parameters.length) = some 2) := ⟨⟨_, rfl⟩, by decide +kernel, by decide +kernel, by decide +kernel⟩
abbrev w3_valueOf (cI cJ cZ : ClassId) (a0 a_danger a_flow a_room a_pumps a_from a_to a_length a_foot : Nat) (v_places : Int32) (v_roads : Int32) (v_danger : Nat → Int32) (v_flow : Nat → Int32) (v_room : Nat → Int32) : va_W := [(a0, .inr (3, [.int v_places, .int v_roads, .ref a_room, .ref a_pumps, .ref a_from, .ref a_to, .ref a_flow, .ref a_length, .ref a_danger, .ref a_foot])), (a_danger, .inl (cI, 16, .inl v_danger)), (a_flow, .inl (cI, 16, .inl v_flow)), (a_room, .inl (cI, 8, .inl v_room))]
def x3_valueOf (v_places : Int32) (v_roads : Int32) (v_danger : Nat → Int32) (v_flow : Nat → Int32) (v_room : Nat → Int32) (p1 : Int32) (p2 : Int32) : Option (Int32) :=
  if p2 = 0 then ((x3_hasPlace v_places p1).bind fun o2 => bif o2 then (bif inB p1 8 then (some ((v_room p1.toNatClampNeg))) else none) else (some (0))) else ((x3_hasRoad v_roads p1).bind fun o1 => bif o1 then (if p2 = 1 then (bif inB p1 16 then (some ((v_flow p1.toNatClampNeg))) else none) else (bif inB p1 16 then (some ((v_danger p1.toNatClampNeg))) else none)) else (some (0)))
set_option maxHeartbeats 4000000 in
set_option maxRecDepth 100000 in
theorem c3_valueOf (l : Launch) (D : va_G) (cI cJ cZ cS cT : ClassId) (a0 a_danger a_flow a_room a_pumps a_from a_to a_length a_foot : Nat) (v_places : Int32) (v_roads : Int32) (v_danger : Nat → Int32) (v_flow : Nat → Int32) (v_room : Nat → Int32) (p1 : Int32) (p2 : Int32) (out : Int32) (hx : x3_valueOf v_places v_roads v_danger v_flow v_room p1 p2 = some out) : MC l D (yT cI cJ cZ cS cT) yX3_valueOf wsX3_valueOf ({ frames := 1, cells := 0, slots := 0, locals := 21 } : Room) (0, 0) [.ref a0, .int p1, .int p2] (w3_valueOf cI cJ cZ a0 a_danger a_flow a_room a_pumps a_from a_to a_length a_foot v_places v_roads v_danger v_flow v_room) (POd (fun o : Int32 => some (.int o)) (fun o : Int32 => (w3_valueOf cI cJ cZ a0 a_danger a_flow a_room a_pumps a_from a_to a_length a_foot v_places v_roads v_danger v_flow v_room)) out) := by
  refine MC.intro (cc := cX3_valueOf) (nL := 3) (ret := (some .int)) (own := RX3) (lv := [(0, .ref a0), (1, .int p1), (2, .int p2)]) (by decide) rfl rfl (Nat.le_of_ble_eq_true rfl) rfl (fun X C E => ?_)
  unfold x3_valueOf at hx
  refine Yiload_n C dX3_valueOf_0 2 rfl rfl ?_
  refine Yif_ne C 23 dX3_valueOf_1 (by decide) hx (fun _ hx => ?_) (fun _ hx => ?_)
  · skip
    refine Yaload_n C dX3_valueOf_23 0 rfl rfl ?_
    refine Yiload_n C dX3_valueOf_24 1 rfl rfl ?_
    obtain ⟨o1, ho1, hx⟩ := ybnd hx
    refine YcallVd (ws' := (w3_valueOf cI cJ cZ a0 a_danger a_flow a_room a_pumps a_from a_to a_length a_foot v_places v_roads v_danger v_flow v_room)) (st' := [.int (bI o1)]) (st := []) (as := [.int p1]) (b := a0) (ci := 3) C [0] dX3_valueOf_25 (c3_hasRoad l D cI cJ cZ cS cT a0 a_room a_pumps a_from a_to a_flow a_length a_danger a_foot v_places v_roads p1 o1 ho1) gX3_valueOf_X3_hasRoad rfl ⟨yf3_hasRoad.1, yf3_hasRoad.2, Nat.le_of_ble_eq_true rfl, Nat.le_of_ble_eq_true rfl, rfl, rfl⟩ rfl 0 rfl (by decide) ⟨Nat.zero_le _, Nat.zero_le _⟩ (Nat.le_of_ble_eq_true rfl) rfl rfl rfl rfl ?_
    refine Yif_ne_b C 33 dX3_valueOf_28 (by decide) hx (fun _ hx => ?_) (fun _ hx => ?_)
    · skip
      refine Yiload_n C dX3_valueOf_33 2 rfl rfl ?_
      refine Yiconst C 1 dX3_valueOf_34 (by decide) ?_
      refine Yicmp_ne C 47 dX3_valueOf_35 (by decide) hx (fun _ hx => ?_) (fun _ hx => ?_)
      · skip
        refine Yaload_n C dX3_valueOf_47 0 rfl rfl ?_
        refine Yget C fg3_valueOf_30 dX3_valueOf_48 0 rfl rfl ?_
        refine Yiload_n C dX3_valueOf_51 1 rfl rfl ?_
        refine Yiald C dX3_valueOf_52 hx 1 0 rfl rfl (fun hx => ?_)
        exact Yiret C E dX3_valueOf_53 (ypo hx rfl rfl)
      · skip
        refine Yaload_n C dX3_valueOf_38 0 rfl rfl ?_
        refine Yget C fg3_valueOf_24 dX3_valueOf_39 0 rfl rfl ?_
        refine Yiload_n C dX3_valueOf_42 1 rfl rfl ?_
        refine Yiald C dX3_valueOf_43 hx 2 0 rfl rfl (fun hx => ?_)
        refine Ygoto C 53 dX3_valueOf_44 (by decide) ?_
        exact Yiret C E dX3_valueOf_53 (ypo hx rfl rfl)
    · skip
      refine Yiconst C 0 dX3_valueOf_31 (by decide) ?_
      exact Yiret C E dX3_valueOf_32 (ypo hx rfl rfl)
  · skip
    refine Yaload_n C dX3_valueOf_4 0 rfl rfl ?_
    refine Yiload_n C dX3_valueOf_5 1 rfl rfl ?_
    obtain ⟨o2, ho2, hx⟩ := ybnd hx
    refine YcallVd (ws' := (w3_valueOf cI cJ cZ a0 a_danger a_flow a_room a_pumps a_from a_to a_length a_foot v_places v_roads v_danger v_flow v_room)) (st' := [.int (bI o2)]) (st := []) (as := [.int p1]) (b := a0) (ci := 3) C [0] dX3_valueOf_6 (c3_hasPlace l D cI cJ cZ cS cT a0 a_room a_pumps a_from a_to a_flow a_length a_danger a_foot v_places v_roads p1 o2 ho2) gX3_valueOf_X3_hasPlace rfl ⟨yf3_hasPlace.1, yf3_hasPlace.2, Nat.le_of_ble_eq_true rfl, Nat.le_of_ble_eq_true rfl, rfl, rfl⟩ rfl 0 rfl (by decide) ⟨Nat.zero_le _, Nat.zero_le _⟩ (Nat.le_of_ble_eq_true rfl) rfl rfl rfl rfl ?_
    refine Yif_eq_b C 21 dX3_valueOf_9 (by decide) hx (fun _ hx => ?_) (fun _ hx => ?_)
    · skip
      refine Yiconst C 0 dX3_valueOf_21 (by decide) ?_
      exact Yiret C E dX3_valueOf_22 (ypo hx rfl rfl)
    · skip
      refine Yaload_n C dX3_valueOf_12 0 rfl rfl ?_
      refine Yget C fg3_valueOf_9 dX3_valueOf_13 0 rfl rfl ?_
      refine Yiload_n C dX3_valueOf_16 1 rfl rfl ?_
      refine Yiald C dX3_valueOf_17 hx 3 0 rfl rfl (fun hx => ?_)
      refine Ygoto C 22 dX3_valueOf_18 (by decide) ?_
      exact Yiret C E dX3_valueOf_22 (ypo hx rfl rfl)
theorem yf3_mayBecome : (∃ Ty', wsX3_mayBecome = Cond.code yX3_mayBecome cX3_mayBecome 4 (some .boolean) :: Ty') ∧ (yX3_mayBecome.cls ≠ "java/lang/invoke/MethodHandle" ∧ yX3_mayBecome.cls ≠ "java/lang/invoke/VarHandle" ∧ (parseMethodDescriptor yX3_mayBecome.desc).map (fun d => d.parameters.length) = some 3) := ⟨⟨_, rfl⟩, by decide +kernel, by decide +kernel, by decide +kernel⟩
abbrev w3_mayBecome (cI cJ cZ : ClassId) (a0 a_room a_pumps a_from a_to a_flow a_length a_danger a_foot : Nat) (v_places : Int32) (v_roads : Int32) : va_W := [(a0, .inr (3, [.int v_places, .int v_roads, .ref a_room, .ref a_pumps, .ref a_from, .ref a_to, .ref a_flow, .ref a_length, .ref a_danger, .ref a_foot]))]
def x3_mayBecome (v_places : Int32) (v_roads : Int32) (p1 : Int32) (p2 : Int32) (p3 : Int32) : Option (Bool) :=
  if p2 = 0 then ((x3_hasPlace v_places p1).bind fun o1 => bif o1 then (if p3 < 0 then (some (false)) else (if 9 < p3 then (some (false)) else (some (true)))) else (some (false))) else (if p2 = 1 then ((x3_hasRoad v_roads p1).bind fun o2 => bif o2 then (if p3 < 1 then (some (false)) else (if 60 < p3 then (some (false)) else (some (true)))) else (some (false))) else (if p2 = 2 then ((x3_hasRoad v_roads p1).bind fun o3 => bif o3 then (if p3 < 0 then (some (false)) else (if 99 < p3 then (some (false)) else (some (true)))) else (some (false))) else (some (false))))
set_option maxHeartbeats 4000000 in
set_option maxRecDepth 100000 in
theorem c3_mayBecome (l : Launch) (D : va_G) (cI cJ cZ cS cT : ClassId) (a0 a_room a_pumps a_from a_to a_flow a_length a_danger a_foot : Nat) (v_places : Int32) (v_roads : Int32) (p1 : Int32) (p2 : Int32) (p3 : Int32) (out : Bool) (hx : x3_mayBecome v_places v_roads p1 p2 p3 = some out) : MC l D (yT cI cJ cZ cS cT) yX3_mayBecome wsX3_mayBecome ({ frames := 1, cells := 0, slots := 0, locals := 21 } : Room) (0, 0) [.ref a0, .int p1, .int p2, .int p3] (w3_mayBecome cI cJ cZ a0 a_room a_pumps a_from a_to a_flow a_length a_danger a_foot v_places v_roads) (POd (fun o : Bool => some (.int (bI o))) (fun o : Bool => (w3_mayBecome cI cJ cZ a0 a_room a_pumps a_from a_to a_flow a_length a_danger a_foot v_places v_roads)) out) := by
  refine MC.intro (cc := cX3_mayBecome) (nL := 4) (ret := (some .boolean)) (own := RX3) (lv := [(0, .ref a0), (1, .int p1), (2, .int p2), (3, .int p3)]) (by decide) rfl rfl (Nat.le_of_ble_eq_true rfl) rfl (fun X C E => ?_)
  unfold x3_mayBecome at hx
  refine Yiload_n C dX3_mayBecome_0 2 rfl rfl ?_
  refine yite hx (fun hq hx => ?_) (fun hq0 hx => ?_)
  · skip
    refine YtabIn (v := 0) (off := 27) C 28 dX3_mayBecome_1 hq (by decide) (by decide) (by decide) (by decide) ?_
    refine Yaload_n C dX3_mayBecome_28 0 rfl rfl ?_
    refine Yiload_n C dX3_mayBecome_29 1 rfl rfl ?_
    obtain ⟨o1, ho1, hx⟩ := ybnd hx
    refine YcallVd (ws' := (w3_mayBecome cI cJ cZ a0 a_room a_pumps a_from a_to a_flow a_length a_danger a_foot v_places v_roads)) (st' := [.int (bI o1)]) (st := []) (as := [.int p1]) (b := a0) (ci := 3) C [0] dX3_mayBecome_30 (c3_hasPlace l D cI cJ cZ cS cT a0 a_room a_pumps a_from a_to a_flow a_length a_danger a_foot v_places v_roads p1 o1 ho1) gX3_mayBecome_X3_hasPlace rfl ⟨yf3_hasPlace.1, yf3_hasPlace.2, Nat.le_of_ble_eq_true rfl, Nat.le_of_ble_eq_true rfl, rfl, rfl⟩ rfl 0 rfl (by decide) ⟨Nat.zero_le _, Nat.zero_le _⟩ (Nat.le_of_ble_eq_true rfl) rfl rfl rfl rfl ?_
    refine Yif_eq_b C 50 dX3_mayBecome_33 (by decide) hx (fun _ hx => ?_) (fun _ hx => ?_)
    · skip
      refine Yiconst C 0 dX3_mayBecome_50 (by decide) ?_
      exact Yzret (b := false) C E dX3_mayBecome_51 (ypo hx rfl rfl)
    · skip
      refine Yiload_n C dX3_mayBecome_36 3 rfl rfl ?_
      refine Yif_lt C 50 dX3_mayBecome_37 (by decide) hx (fun _ hx => ?_) (fun _ hx => ?_)
      · skip
        refine Yiconst C 0 dX3_mayBecome_50 (by decide) ?_
        exact Yzret (b := false) C E dX3_mayBecome_51 (ypo hx rfl rfl)
      · skip
        refine Yiload_n C dX3_mayBecome_40 3 rfl rfl ?_
        refine Ybipush C 9 dX3_mayBecome_41 (by decide) ?_
        refine Yicmp_gt C 50 dX3_mayBecome_43 (by decide) hx (fun _ hx => ?_) (fun _ hx => ?_)
        · skip
          refine Yiconst C 0 dX3_mayBecome_50 (by decide) ?_
          exact Yzret (b := false) C E dX3_mayBecome_51 (ypo hx rfl rfl)
        · skip
          refine Yiconst C 1 dX3_mayBecome_46 (by decide) ?_
          refine Ygoto C 51 dX3_mayBecome_47 (by decide) ?_
          exact Yzret (b := true) C E dX3_mayBecome_51 (ypo hx rfl rfl)
  refine yite hx (fun hq hx => ?_) (fun hq1 hx => ?_)
  · skip
    refine YtabIn (v := 1) (off := 51) C 52 dX3_mayBecome_1 hq (by decide) (by decide) (by decide) (by decide) ?_
    refine Yaload_n C dX3_mayBecome_52 0 rfl rfl ?_
    refine Yiload_n C dX3_mayBecome_53 1 rfl rfl ?_
    obtain ⟨o2, ho2, hx⟩ := ybnd hx
    refine YcallVd (ws' := (w3_mayBecome cI cJ cZ a0 a_room a_pumps a_from a_to a_flow a_length a_danger a_foot v_places v_roads)) (st' := [.int (bI o2)]) (st := []) (as := [.int p1]) (b := a0) (ci := 3) C [0] dX3_mayBecome_54 (c3_hasRoad l D cI cJ cZ cS cT a0 a_room a_pumps a_from a_to a_flow a_length a_danger a_foot v_places v_roads p1 o2 ho2) gX3_mayBecome_X3_hasRoad rfl ⟨yf3_hasRoad.1, yf3_hasRoad.2, Nat.le_of_ble_eq_true rfl, Nat.le_of_ble_eq_true rfl, rfl, rfl⟩ rfl 0 rfl (by decide) ⟨Nat.zero_le _, Nat.zero_le _⟩ (Nat.le_of_ble_eq_true rfl) rfl rfl rfl rfl ?_
    refine Yif_eq_b C 75 dX3_mayBecome_57 (by decide) hx (fun _ hx => ?_) (fun _ hx => ?_)
    · skip
      refine Yiconst C 0 dX3_mayBecome_75 (by decide) ?_
      exact Yzret (b := false) C E dX3_mayBecome_76 (ypo hx rfl rfl)
    · skip
      refine Yiload_n C dX3_mayBecome_60 3 rfl rfl ?_
      refine Yiconst C 1 dX3_mayBecome_61 (by decide) ?_
      refine Yicmp_lt C 75 dX3_mayBecome_62 (by decide) hx (fun _ hx => ?_) (fun _ hx => ?_)
      · skip
        refine Yiconst C 0 dX3_mayBecome_75 (by decide) ?_
        exact Yzret (b := false) C E dX3_mayBecome_76 (ypo hx rfl rfl)
      · skip
        refine Yiload_n C dX3_mayBecome_65 3 rfl rfl ?_
        refine Ybipush C 60 dX3_mayBecome_66 (by decide) ?_
        refine Yicmp_gt C 75 dX3_mayBecome_68 (by decide) hx (fun _ hx => ?_) (fun _ hx => ?_)
        · skip
          refine Yiconst C 0 dX3_mayBecome_75 (by decide) ?_
          exact Yzret (b := false) C E dX3_mayBecome_76 (ypo hx rfl rfl)
        · skip
          refine Yiconst C 1 dX3_mayBecome_71 (by decide) ?_
          refine Ygoto C 76 dX3_mayBecome_72 (by decide) ?_
          exact Yzret (b := true) C E dX3_mayBecome_76 (ypo hx rfl rfl)
  refine yite hx (fun hq hx => ?_) (fun hq2 hx => ?_)
  · skip
    refine YtabIn (v := 2) (off := 76) C 77 dX3_mayBecome_1 hq (by decide) (by decide) (by decide) (by decide) ?_
    refine Yaload_n C dX3_mayBecome_77 0 rfl rfl ?_
    refine Yiload_n C dX3_mayBecome_78 1 rfl rfl ?_
    obtain ⟨o3, ho3, hx⟩ := ybnd hx
    refine YcallVd (ws' := (w3_mayBecome cI cJ cZ a0 a_room a_pumps a_from a_to a_flow a_length a_danger a_foot v_places v_roads)) (st' := [.int (bI o3)]) (st := []) (as := [.int p1]) (b := a0) (ci := 3) C [0] dX3_mayBecome_79 (c3_hasRoad l D cI cJ cZ cS cT a0 a_room a_pumps a_from a_to a_flow a_length a_danger a_foot v_places v_roads p1 o3 ho3) gX3_mayBecome_X3_hasRoad rfl ⟨yf3_hasRoad.1, yf3_hasRoad.2, Nat.le_of_ble_eq_true rfl, Nat.le_of_ble_eq_true rfl, rfl, rfl⟩ rfl 0 rfl (by decide) ⟨Nat.zero_le _, Nat.zero_le _⟩ (Nat.le_of_ble_eq_true rfl) rfl rfl rfl rfl ?_
    refine Yif_eq_b C 99 dX3_mayBecome_82 (by decide) hx (fun _ hx => ?_) (fun _ hx => ?_)
    · skip
      refine Yiconst C 0 dX3_mayBecome_99 (by decide) ?_
      exact Yzret (b := false) C E dX3_mayBecome_100 (ypo hx rfl rfl)
    · skip
      refine Yiload_n C dX3_mayBecome_85 3 rfl rfl ?_
      refine Yif_lt C 99 dX3_mayBecome_86 (by decide) hx (fun _ hx => ?_) (fun _ hx => ?_)
      · skip
        refine Yiconst C 0 dX3_mayBecome_99 (by decide) ?_
        exact Yzret (b := false) C E dX3_mayBecome_100 (ypo hx rfl rfl)
      · skip
        refine Yiload_n C dX3_mayBecome_89 3 rfl rfl ?_
        refine Ybipush C 99 dX3_mayBecome_90 (by decide) ?_
        refine Yicmp_gt C 99 dX3_mayBecome_92 (by decide) hx (fun _ hx => ?_) (fun _ hx => ?_)
        · skip
          refine Yiconst C 0 dX3_mayBecome_99 (by decide) ?_
          exact Yzret (b := false) C E dX3_mayBecome_100 (ypo hx rfl rfl)
        · skip
          refine Yiconst C 1 dX3_mayBecome_95 (by decide) ?_
          refine Ygoto C 100 dX3_mayBecome_96 (by decide) ?_
          exact Yzret (b := true) C E dX3_mayBecome_100 (ypo hx rfl rfl)
  refine YtabOut C 101 dX3_mayBecome_1 (by have e0 : p2.toInt ≠ 0 := ne_toInt hq0; have e1 : p2.toInt ≠ 1 := ne_toInt hq1; have e2 : p2.toInt ≠ 2 := ne_toInt hq2; omega) (by decide) ?_
  refine Yiconst C 0 dX3_mayBecome_101 (by decide) ?_
  exact Yzret (b := false) C E dX3_mayBecome_102 (ypo hx rfl rfl)
theorem fg3_change_30 : YF wsX3_change RX3 30 3 8 := ⟨RX3, TX3, 10, rfl, (fun w h => List.mem_cons_of_mem _ (List.mem_append_right _ h)), by decide, List.mem_of_getElem? (i := 3) rfl⟩
theorem fg3_change_24 : YF wsX3_change RX3 24 3 6 := ⟨RX3, TX3, 10, rfl, (fun w h => List.mem_cons_of_mem _ (List.mem_append_right _ h)), by decide, List.mem_of_getElem? (i := 2) rfl⟩
theorem fg3_change_9 : YF wsX3_change RX3 9 3 2 := ⟨RX3, TX3, 10, rfl, (fun w h => List.mem_cons_of_mem _ (List.mem_append_right _ h)), by decide, List.mem_of_getElem? (i := 1) rfl⟩
theorem yf3_change : (∃ Ty', wsX3_change = Cond.code yX3_change cX3_change 4 none :: Ty') ∧ (yX3_change.cls ≠ "java/lang/invoke/MethodHandle" ∧ yX3_change.cls ≠ "java/lang/invoke/VarHandle" ∧ (parseMethodDescriptor yX3_change.desc).map (fun d => d.parameters.length) = some 3) := ⟨⟨_, rfl⟩, by decide +kernel, by decide +kernel, by decide +kernel⟩
abbrev w3_change (cI cJ cZ : ClassId) (a0 a_danger a_flow a_room a_pumps a_from a_to a_length a_foot : Nat) (v_places : Int32) (v_roads : Int32) (v_danger : Nat → Int32) (v_flow : Nat → Int32) (v_room : Nat → Int32) : va_W := [(a0, .inr (3, [.int v_places, .int v_roads, .ref a_room, .ref a_pumps, .ref a_from, .ref a_to, .ref a_flow, .ref a_length, .ref a_danger, .ref a_foot])), (a_danger, .inl (cI, 16, .inl v_danger)), (a_flow, .inl (cI, 16, .inl v_flow)), (a_room, .inl (cI, 8, .inl v_room))]
def x3_change (v_places : Int32) (v_roads : Int32) (v_danger : Nat → Int32) (v_flow : Nat → Int32) (v_room : Nat → Int32) (p1 : Int32) (p2 : Int32) (p3 : Int32) : Option ((Nat → Int32) × (Nat → Int32) × (Nat → Int32)) :=
  (x3_mayBecome v_places v_roads p1 p2 p3).bind fun o1 => bif o1 then (if p2 = 0 then (bif inB p1 8 then (some (v_danger, v_flow, (upd v_room p1.toNatClampNeg p3))) else none) else (if p2 = 1 then (bif inB p1 16 then (some (v_danger, (upd v_flow p1.toNatClampNeg p3), v_room)) else none) else (bif inB p1 16 then (some ((upd v_danger p1.toNatClampNeg p3), v_flow, v_room)) else none))) else (some (v_danger, v_flow, v_room))
set_option maxHeartbeats 4000000 in
set_option maxRecDepth 100000 in
theorem c3_change (l : Launch) (D : va_G) (cI cJ cZ cS cT : ClassId) (a0 a_danger a_flow a_room a_pumps a_from a_to a_length a_foot : Nat) (v_places : Int32) (v_roads : Int32) (v_danger : Nat → Int32) (v_flow : Nat → Int32) (v_room : Nat → Int32) (p1 : Int32) (p2 : Int32) (p3 : Int32) (out : (Nat → Int32) × (Nat → Int32) × (Nat → Int32)) (hx : x3_change v_places v_roads v_danger v_flow v_room p1 p2 p3 = some out) : MC l D (yT cI cJ cZ cS cT) yX3_change wsX3_change ({ frames := 2, cells := 0, slots := 0, locals := 44 } : Room) (0, 0) [.ref a0, .int p1, .int p2, .int p3] (w3_change cI cJ cZ a0 a_danger a_flow a_room a_pumps a_from a_to a_length a_foot v_places v_roads v_danger v_flow v_room) (POd (fun o : (Nat → Int32) × (Nat → Int32) × (Nat → Int32) => none) (fun o : (Nat → Int32) × (Nat → Int32) × (Nat → Int32) => (w3_change cI cJ cZ a0 a_danger a_flow a_room a_pumps a_from a_to a_length a_foot v_places v_roads o.1 o.2.1 o.2.2)) out) := by
  refine MC.intro (cc := cX3_change) (nL := 4) (ret := none) (own := RX3) (lv := [(0, .ref a0), (1, .int p1), (2, .int p2), (3, .int p3)]) (by decide) rfl rfl (Nat.le_of_ble_eq_true rfl) rfl (fun X C E => ?_)
  unfold x3_change at hx
  refine Yaload_n C dX3_change_0 0 rfl rfl ?_
  refine Yiload_n C dX3_change_1 1 rfl rfl ?_
  refine Yiload_n C dX3_change_2 2 rfl rfl ?_
  refine Yiload_n C dX3_change_3 3 rfl rfl ?_
  obtain ⟨o1, ho1, hx⟩ := ybnd hx
  refine YcallVd (ws' := (w3_change cI cJ cZ a0 a_danger a_flow a_room a_pumps a_from a_to a_length a_foot v_places v_roads v_danger v_flow v_room)) (st' := [.int (bI o1)]) (st := []) (as := [.int p1, .int p2, .int p3]) (b := a0) (ci := 3) C [0] dX3_change_4 (c3_mayBecome l D cI cJ cZ cS cT a0 a_room a_pumps a_from a_to a_flow a_length a_danger a_foot v_places v_roads p1 p2 p3 o1 ho1) gX3_change_X3_mayBecome rfl ⟨yf3_mayBecome.1, yf3_mayBecome.2, Nat.le_of_ble_eq_true rfl, Nat.le_of_ble_eq_true rfl, rfl, rfl⟩ rfl 0 rfl (by decide) ⟨Nat.zero_le _, Nat.zero_le _⟩ (Nat.le_of_ble_eq_true rfl) rfl rfl rfl rfl ?_
  refine Yif_ne_b C 11 dX3_change_7 (by decide) hx (fun _ hx => ?_) (fun _ hx => ?_)
  · skip
    refine Yiload_n C dX3_change_11 2 rfl rfl ?_
    refine Yif_ne C 25 dX3_change_12 (by decide) hx (fun _ hx => ?_) (fun _ hx => ?_)
    · skip
      refine Yiload_n C dX3_change_25 2 rfl rfl ?_
      refine Yiconst C 1 dX3_change_26 (by decide) ?_
      refine Yicmp_ne C 40 dX3_change_27 (by decide) hx (fun _ hx => ?_) (fun _ hx => ?_)
      · skip
        refine Yaload_n C dX3_change_40 0 rfl rfl ?_
        refine Yget C fg3_change_30 dX3_change_41 0 rfl rfl ?_
        refine Yiload_n C dX3_change_44 1 rfl rfl ?_
        refine Yiload_n C dX3_change_45 3 rfl rfl ?_
        refine Yiast (ws' := (w3_change cI cJ cZ a0 a_danger a_flow a_room a_pumps a_from a_to a_length a_foot v_places v_roads (upd v_danger p1.toNatClampNeg p3) v_flow v_room)) C dX3_change_46 hx 1 0 rfl rfl rfl (fun hx => ?_)
        exact Yvret C E dX3_change_47 (ypo hx rfl rfl)
      · skip
        refine Yaload_n C dX3_change_30 0 rfl rfl ?_
        refine Yget C fg3_change_24 dX3_change_31 0 rfl rfl ?_
        refine Yiload_n C dX3_change_34 1 rfl rfl ?_
        refine Yiload_n C dX3_change_35 3 rfl rfl ?_
        refine Yiast (ws' := (w3_change cI cJ cZ a0 a_danger a_flow a_room a_pumps a_from a_to a_length a_foot v_places v_roads v_danger (upd v_flow p1.toNatClampNeg p3) v_room)) C dX3_change_36 hx 2 0 rfl rfl rfl (fun hx => ?_)
        refine Ygoto C 47 dX3_change_37 (by decide) ?_
        exact Yvret C E dX3_change_47 (ypo hx rfl rfl)
    · skip
      refine Yaload_n C dX3_change_15 0 rfl rfl ?_
      refine Yget C fg3_change_9 dX3_change_16 0 rfl rfl ?_
      refine Yiload_n C dX3_change_19 1 rfl rfl ?_
      refine Yiload_n C dX3_change_20 3 rfl rfl ?_
      refine Yiast (ws' := (w3_change cI cJ cZ a0 a_danger a_flow a_room a_pumps a_from a_to a_length a_foot v_places v_roads v_danger v_flow (upd v_room p1.toNatClampNeg p3))) C dX3_change_21 hx 3 0 rfl rfl rfl (fun hx => ?_)
      refine Ygoto C 47 dX3_change_22 (by decide) ?_
      exact Yvret C E dX3_change_47 (ypo hx rfl rfl)
  · skip
    exact Yvret C E dX3_change_10 (ypo hx rfl rfl)
